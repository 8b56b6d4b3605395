abbrev bb_Out_init : ByteArray := prog_1_method_1_code
def yy_Out_init : MethodName := ⟨"OutletOffice", "<init>", "()V"⟩
abbrev bb_Out_limit : ByteArray := prog_1_method_2_code
def yy_Out_limit : MethodName := ⟨"OutletOffice", "limit", "(II)V"⟩
abbrev bb_Out_band : ByteArray := prog_1_method_3_code
def yy_Out_band : MethodName := ⟨"OutletOffice", "band", "(III)V"⟩
abbrev bb_Out_fees : ByteArray := prog_1_method_4_code
def yy_Out_fees : MethodName := ⟨"OutletOffice", "fees", "(II)V"⟩
abbrev bb_Out_card : ByteArray := prog_1_method_5_code
def yy_Out_card : MethodName := ⟨"OutletOffice", "card", "(III)V"⟩
abbrev bb_Out_copy : ByteArray := prog_1_method_6_code
def yy_Out_copy : MethodName := ⟨"OutletOffice", "copy", "(I)Z"⟩
abbrev bb_Out_car : ByteArray := prog_1_method_7_code
def yy_Out_car : MethodName := ⟨"OutletOffice", "car", "(IIII)Z"⟩
abbrev bb_Out_want : ByteArray := prog_1_method_8_code
def yy_Out_want : MethodName := ⟨"OutletOffice", "want", "(II)Z"⟩
abbrev bb_Out_leave : ByteArray := prog_1_method_9_code
def yy_Out_leave : MethodName := ⟨"OutletOffice", "leave", "(I)Z"⟩
abbrev bb_Out_show : ByteArray := prog_1_method_10_code
def yy_Out_show : MethodName := ⟨"OutletOffice", "show", "(II)I"⟩
abbrev bb_Out_line : ByteArray := prog_1_method_11_code
def yy_Out_line : MethodName := ⟨"OutletOffice", "line", "(IZ)V"⟩
abbrev bb_Out_power : ByteArray := prog_1_method_12_code
def yy_Out_power : MethodName := ⟨"OutletOffice", "power", "(IZ)V"⟩
abbrev bb_Out_carry : ByteArray := prog_1_method_13_code
def yy_Out_carry : MethodName := ⟨"OutletOffice", "carry", "(I)I"⟩
abbrev bb_Out_lose : ByteArray := prog_1_method_14_code
def yy_Out_lose : MethodName := ⟨"OutletOffice", "lose", "(I)Z"⟩
abbrev bb_Out_pass : ByteArray := prog_1_method_15_code
def yy_Out_pass : MethodName := ⟨"OutletOffice", "pass", "(I)I"⟩
abbrev bb_Out_time : ByteArray := prog_1_method_16_code
def yy_Out_time : MethodName := ⟨"OutletOffice", "time", "()I"⟩
abbrev bb_Out_current : ByteArray := prog_1_method_17_code
def yy_Out_current : MethodName := ⟨"OutletOffice", "current", "(I)I"⟩
abbrev bb_Out_sum : ByteArray := prog_1_method_18_code
def yy_Out_sum : MethodName := ⟨"OutletOffice", "sum", "(I)I"⟩
abbrev bb_Out_meter : ByteArray := prog_1_method_19_code
def yy_Out_meter : MethodName := ⟨"OutletOffice", "meter", "(I)J"⟩
abbrev bb_Out_about : ByteArray := prog_1_method_20_code
def yy_Out_about : MethodName := ⟨"OutletOffice", "about", "(II)I"⟩
abbrev bb_Out_open : ByteArray := prog_1_method_21_code
def yy_Out_open : MethodName := ⟨"OutletOffice", "open", "(I)J"⟩
abbrev bb_Out_bills : ByteArray := prog_1_method_22_code
def yy_Out_bills : MethodName := ⟨"OutletOffice", "bills", "()I"⟩
abbrev bb_Out_bill : ByteArray := prog_1_method_23_code
def yy_Out_bill : MethodName := ⟨"OutletOffice", "bill", "(II)I"⟩
abbrev bb_Out_total : ByteArray := prog_1_method_24_code
def yy_Out_total : MethodName := ⟨"OutletOffice", "total", "(I)J"⟩
abbrev bb_Out_pointAt : ByteArray := prog_1_method_25_code
def yy_Out_pointAt : MethodName := ⟨"OutletOffice", "pointAt", "(I)LOutletOffice$Point;"⟩
abbrev bb_Out_checkIndex : ByteArray := prog_1_method_26_code
def yy_Out_checkIndex : MethodName := ⟨"OutletOffice", "checkIndex", "(II)V"⟩
abbrev bb_Out_checkNumber : ByteArray := prog_1_method_27_code
def yy_Out_checkNumber : MethodName := ⟨"OutletOffice", "checkNumber", "(III)V"⟩
abbrev bb_Out_evenSeconds : ByteArray := prog_1_method_28_code
def yy_Out_evenSeconds : MethodName := ⟨"OutletOffice", "evenSeconds", "(I)I"⟩
abbrev bb_Out_goOn : ByteArray := prog_1_method_29_code
def yy_Out_goOn : MethodName := ⟨"OutletOffice", "goOn", "(I)V"⟩
abbrev bb_M_init : ByteArray := prog_12_method_1_code
def yy_M_init : MethodName := ⟨"OutletOfficeModel", "<init>", "()V"⟩
abbrev bb_M_thrown : ByteArray := prog_12_method_2_code
def yy_M_thrown : MethodName := ⟨"OutletOfficeModel", "thrown", "()I"⟩
abbrev bb_M_isIn : ByteArray := prog_12_method_3_code
def yy_M_isIn : MethodName := ⟨"OutletOfficeModel", "isIn", "(III)Z"⟩
abbrev bb_M_noPoint : ByteArray := prog_12_method_4_code
def yy_M_noPoint : MethodName := ⟨"OutletOfficeModel", "noPoint", "(I)Z"⟩
abbrev bb_M_limit : ByteArray := prog_12_method_5_code
def yy_M_limit : MethodName := ⟨"OutletOfficeModel", "limit", "(II)V"⟩
abbrev bb_M_band : ByteArray := prog_12_method_6_code
def yy_M_band : MethodName := ⟨"OutletOfficeModel", "band", "(III)V"⟩
abbrev bb_M_fees : ByteArray := prog_12_method_7_code
def yy_M_fees : MethodName := ⟨"OutletOfficeModel", "fees", "(II)V"⟩
abbrev bb_M_card : ByteArray := prog_12_method_8_code
def yy_M_card : MethodName := ⟨"OutletOfficeModel", "card", "(III)V"⟩
abbrev bb_M_copy : ByteArray := prog_12_method_9_code
def yy_M_copy : MethodName := ⟨"OutletOfficeModel", "copy", "(I)Z"⟩
abbrev bb_M_list : ByteArray := prog_12_method_10_code
def yy_M_list : MethodName := ⟨"OutletOfficeModel", "list", "(I)I"⟩
abbrev bb_M_car : ByteArray := prog_12_method_11_code
def yy_M_car : MethodName := ⟨"OutletOfficeModel", "car", "(IIII)Z"⟩
abbrev bb_M_want : ByteArray := prog_12_method_12_code
def yy_M_want : MethodName := ⟨"OutletOfficeModel", "want", "(II)Z"⟩
abbrev bb_M_runs : ByteArray := prog_12_method_13_code
def yy_M_runs : MethodName := ⟨"OutletOfficeModel", "runs", "(I)Z"⟩
abbrev bb_M_cell : ByteArray := prog_12_method_14_code
def yy_M_cell : MethodName := ⟨"OutletOfficeModel", "cell", "(II)I"⟩
abbrev bb_M_put : ByteArray := prog_12_method_15_code
def yy_M_put : MethodName := ⟨"OutletOfficeModel", "put", "(III)V"⟩
abbrev bb_M_ends : ByteArray := prog_12_method_16_code
def yy_M_ends : MethodName := ⟨"OutletOfficeModel", "ends", "(II)V"⟩
abbrev bb_M_idle : ByteArray := prog_12_method_17_code
def yy_M_idle : MethodName := ⟨"OutletOfficeModel", "idle", "(I)I"⟩
abbrev bb_M_leave : ByteArray := prog_12_method_18_code
def yy_M_leave : MethodName := ⟨"OutletOfficeModel", "leave", "(I)Z"⟩
abbrev bb_M_show : ByteArray := prog_12_method_19_code
def yy_M_show : MethodName := ⟨"OutletOfficeModel", "show", "(II)I"⟩
abbrev bb_M_line : ByteArray := prog_12_method_20_code
def yy_M_line : MethodName := ⟨"OutletOfficeModel", "line", "(IZ)V"⟩
abbrev bb_M_power : ByteArray := prog_12_method_21_code
def yy_M_power : MethodName := ⟨"OutletOfficeModel", "power", "(IZ)V"⟩
abbrev bb_M_priceAt : ByteArray := prog_12_method_22_code
def yy_M_priceAt : MethodName := ⟨"OutletOfficeModel", "priceAt", "(I)I"⟩
abbrev bb_M_charge : ByteArray := prog_12_method_23_code
def yy_M_charge : MethodName := ⟨"OutletOfficeModel", "charge", "(IJI)V"⟩
abbrev bb_M_close : ByteArray := prog_12_method_24_code
def yy_M_close : MethodName := ⟨"OutletOfficeModel", "close", "(I)V"⟩
abbrev bb_M_takeIn : ByteArray := prog_12_method_25_code
def yy_M_takeIn : MethodName := ⟨"OutletOfficeModel", "takeIn", "(I)V"⟩
abbrev bb_M_goes : ByteArray := prog_12_method_26_code
def yy_M_goes : MethodName := ⟨"OutletOfficeModel", "goes", "(I)V"⟩
abbrev bb_M_carry : ByteArray := prog_12_method_27_code
def yy_M_carry : MethodName := ⟨"OutletOfficeModel", "carry", "(I)I"⟩
abbrev bb_M_lose : ByteArray := prog_12_method_28_code
def yy_M_lose : MethodName := ⟨"OutletOfficeModel", "lose", "(I)Z"⟩
abbrev bb_M_isActive : ByteArray := prog_12_method_29_code
def yy_M_isActive : MethodName := ⟨"OutletOfficeModel", "isActive", "(I)Z"⟩
abbrev bb_M_wantsNow : ByteArray := prog_12_method_30_code
def yy_M_wantsNow : MethodName := ⟨"OutletOfficeModel", "wantsNow", "(I)I"⟩
abbrev bb_M_share : ByteArray := prog_12_method_31_code
def yy_M_share : MethodName := ⟨"OutletOfficeModel", "share", "(III)I"⟩
abbrev bb_M_reckon : ByteArray := prog_12_method_32_code
def yy_M_reckon : MethodName := ⟨"OutletOfficeModel", "reckon", "(I)V"⟩
abbrev bb_M_reckonAll : ByteArray := prog_12_method_33_code
def yy_M_reckonAll : MethodName := ⟨"OutletOfficeModel", "reckonAll", "()V"⟩
abbrev bb_M_second : ByteArray := prog_12_method_34_code
def yy_M_second : MethodName := ⟨"OutletOfficeModel", "second", "()V"⟩
abbrev bb_M_pass : ByteArray := prog_12_method_35_code
def yy_M_pass : MethodName := ⟨"OutletOfficeModel", "pass", "(I)I"⟩
abbrev bb_M_time : ByteArray := prog_12_method_36_code
def yy_M_time : MethodName := ⟨"OutletOfficeModel", "time", "()I"⟩
abbrev bb_M_current : ByteArray := prog_12_method_37_code
def yy_M_current : MethodName := ⟨"OutletOfficeModel", "current", "(I)I"⟩
abbrev bb_M_sum : ByteArray := prog_12_method_38_code
def yy_M_sum : MethodName := ⟨"OutletOfficeModel", "sum", "(I)I"⟩
abbrev bb_M_meter : ByteArray := prog_12_method_39_code
def yy_M_meter : MethodName := ⟨"OutletOfficeModel", "meter", "(I)J"⟩
abbrev bb_M_about : ByteArray := prog_12_method_40_code
def yy_M_about : MethodName := ⟨"OutletOfficeModel", "about", "(II)I"⟩
abbrev bb_M_open : ByteArray := prog_12_method_41_code
def yy_M_open : MethodName := ⟨"OutletOfficeModel", "open", "(I)J"⟩
abbrev bb_M_bills : ByteArray := prog_12_method_42_code
def yy_M_bills : MethodName := ⟨"OutletOfficeModel", "bills", "()I"⟩
abbrev bb_M_bill : ByteArray := prog_12_method_43_code
def yy_M_bill : MethodName := ⟨"OutletOfficeModel", "bill", "(II)I"⟩
abbrev bb_M_total : ByteArray := prog_12_method_44_code
def yy_M_total : MethodName := ⟨"OutletOfficeModel", "total", "(I)J"⟩
abbrev bb_Bill_init : ByteArray := prog_2_method_1_code
def yy_Bill_init : MethodName := ⟨"OutletOffice$Bill", "<init>", "()V"⟩
abbrev bb_Bill_begin : ByteArray := prog_2_method_2_code
def yy_Bill_begin : MethodName := ⟨"OutletOffice$Bill", "begin", "(LOutletOffice$Message;I)V"⟩
abbrev bb_Bill_grow : ByteArray := prog_2_method_3_code
def yy_Bill_grow : MethodName := ⟨"OutletOffice$Bill", "grow", "(LOutletOffice$Message;I)V"⟩
abbrev bb_Bill_cents : ByteArray := prog_2_method_4_code
def yy_Bill_cents : MethodName := ⟨"OutletOffice$Bill", "cents", "()I"⟩
abbrev bb_Car_init : ByteArray := prog_3_method_1_code
def yy_Car_init : MethodName := ⟨"OutletOffice$Car", "<init>", "()V"⟩
abbrev bb_Car_come : ByteArray := prog_3_method_2_code
def yy_Car_come : MethodName := ⟨"OutletOffice$Car", "come", "(III)V"⟩
abbrev bb_Car_go : ByteArray := prog_3_method_3_code
def yy_Car_go : MethodName := ⟨"OutletOffice$Car", "go", "()V"⟩
abbrev bb_Car_presence : ByteArray := prog_3_method_4_code
def yy_Car_presence : MethodName := ⟨"OutletOffice$Car", "presence", "()I"⟩
abbrev bb_Car_idleSeconds : ByteArray := prog_3_method_5_code
def yy_Car_idleSeconds : MethodName := ⟨"OutletOffice$Car", "idleSeconds", "(I)I"⟩
abbrev bb_Car_secondsToFull : ByteArray := prog_3_method_6_code
def yy_Car_secondsToFull : MethodName := ⟨"OutletOffice$Car", "secondsToFull", "(II)I"⟩
abbrev bb_Car_eat : ByteArray := prog_3_method_7_code
def yy_Car_eat : MethodName := ⟨"OutletOffice$Car", "eat", "(II)V"⟩
abbrev bb_Cards_init : ByteArray := prog_4_method_1_code
def yy_Cards_init : MethodName := ⟨"OutletOffice$CardList", "<init>", "()V"⟩
abbrev bb_Cards_setCard : ByteArray := prog_4_method_2_code
def yy_Cards_setCard : MethodName := ⟨"OutletOffice$CardList", "setCard", "(III)V"⟩
abbrev bb_Cards_takeOver : ByteArray := prog_4_method_3_code
def yy_Cards_takeOver : MethodName := ⟨"OutletOffice$CardList", "takeOver", "(LOutletOffice$CardList;)V"⟩
abbrev bb_Cards_isGood : ByteArray := prog_4_method_4_code
def yy_Cards_isGood : MethodName := ⟨"OutletOffice$CardList", "isGood", "(I)Z"⟩
abbrev bb_Cards_areOfOneHolder : ByteArray := prog_4_method_5_code
def yy_Cards_areOfOneHolder : MethodName := ⟨"OutletOffice$CardList", "areOfOneHolder", "(II)Z"⟩
abbrev bb_Msg_init : ByteArray := prog_5_method_1_code
def yy_Msg_init : MethodName := ⟨"OutletOffice$Message", "<init>", "()V"⟩
abbrev bb_Msg_fill : ByteArray := prog_5_method_2_code
def yy_Msg_fill : MethodName := ⟨"OutletOffice$Message", "fill", "(IIIIII)V"⟩
abbrev bb_Office_init : ByteArray := prog_6_method_1_code
def yy_Office_init : MethodName := ⟨"OutletOffice$Office", "<init>", "()V"⟩
abbrev bb_Office_takeIn : ByteArray := prog_6_method_2_code
def yy_Office_takeIn : MethodName := ⟨"OutletOffice$Office", "takeIn", "(IILOutletOffice$Message;)V"⟩
abbrev bb_Office_close : ByteArray := prog_6_method_3_code
def yy_Office_close : MethodName := ⟨"OutletOffice$Office", "close", "(ILOutletOffice$Bill;)V"⟩
abbrev bb_Point_init : ByteArray := prog_7_method_1_code
def yy_Point_init : MethodName := ⟨"OutletOffice$Point", "<init>", "()V"⟩
abbrev bb_Point_isReachable : ByteArray := prog_7_method_2_code
def yy_Point_isReachable : MethodName := ⟨"OutletOffice$Point", "isReachable", "()Z"⟩
abbrev bb_Point_runs : ByteArray := prog_7_method_3_code
def yy_Point_runs : MethodName := ⟨"OutletOffice$Point", "runs", "()Z"⟩
abbrev bb_Point_isActive : ByteArray := prog_7_method_4_code
def yy_Point_isActive : MethodName := ⟨"OutletOffice$Point", "isActive", "()Z"⟩
abbrev bb_Point_takesAt : ByteArray := prog_7_method_5_code
def yy_Point_takesAt : MethodName := ⟨"OutletOffice$Point", "takesAt", "(I)I"⟩
abbrev bb_Point_mayBegin : ByteArray := prog_7_method_6_code
def yy_Point_mayBegin : MethodName := ⟨"OutletOffice$Point", "mayBegin", "()Z"⟩
abbrev bb_Point_begin : ByteArray := prog_7_method_7_code
def yy_Point_begin : MethodName := ⟨"OutletOffice$Point", "begin", "(II)V"⟩
abbrev bb_Point_end : ByteArray := prog_7_method_8_code
def yy_Point_end : MethodName := ⟨"OutletOffice$Point", "end", "(II)V"⟩
abbrev bb_Point_tell : ByteArray := prog_7_method_9_code
def yy_Point_tell : MethodName := ⟨"OutletOffice$Point", "tell", "(III)V"⟩
abbrev bb_Point_setLine : ByteArray := prog_7_method_10_code
def yy_Point_setLine : MethodName := ⟨"OutletOffice$Point", "setLine", "(Z)V"⟩
abbrev bb_Point_setPower : ByteArray := prog_7_method_11_code
def yy_Point_setPower : MethodName := ⟨"OutletOffice$Point", "setPower", "(ZI)V"⟩
abbrev bb_Point_dropIfUnreachable : ByteArray := prog_7_method_12_code
def yy_Point_dropIfUnreachable : MethodName := ⟨"OutletOffice$Point", "dropIfUnreachable", "()V"⟩
abbrev bb_Point_evenSeconds : ByteArray := prog_7_method_13_code
def yy_Point_evenSeconds : MethodName := ⟨"OutletOffice$Point", "evenSeconds", "(II)I"⟩
abbrev bb_Point_charge : ByteArray := prog_7_method_14_code
def yy_Point_charge : MethodName := ⟨"OutletOffice$Point", "charge", "(II)V"⟩
abbrev bb_Point_read : ByteArray := prog_7_method_15_code
def yy_Point_read : MethodName := ⟨"OutletOffice$Point", "read", "(I)V"⟩
abbrev bb_Point_send : ByteArray := prog_7_method_16_code
def yy_Point_send : MethodName := ⟨"OutletOffice$Point", "send", "(I)V"⟩
abbrev bb_Point_hasRoomForReading : ByteArray := prog_7_method_17_code
def yy_Point_hasRoomForReading : MethodName := ⟨"OutletOffice$Point", "hasRoomForReading", "()Z"⟩
abbrev bb_Point_waitsToSend : ByteArray := prog_7_method_18_code
def yy_Point_waitsToSend : MethodName := ⟨"OutletOffice$Point", "waitsToSend", "()Z"⟩
abbrev bb_Queue_init : ByteArray := prog_8_method_1_code
def yy_Queue_init : MethodName := ⟨"OutletOffice$Queue", "<init>", "()V"⟩
abbrev bb_Queue_put : ByteArray := prog_8_method_2_code
def yy_Queue_put : MethodName := ⟨"OutletOffice$Queue", "put", "(IIIIII)V"⟩
abbrev bb_Queue_first : ByteArray := prog_8_method_3_code
def yy_Queue_first : MethodName := ⟨"OutletOffice$Queue", "first", "()LOutletOffice$Message;"⟩
abbrev bb_Queue_firstNumber : ByteArray := prog_8_method_4_code
def yy_Queue_firstNumber : MethodName := ⟨"OutletOffice$Queue", "firstNumber", "()I"⟩
abbrev bb_Queue_firstDue : ByteArray := prog_8_method_5_code
def yy_Queue_firstDue : MethodName := ⟨"OutletOffice$Queue", "firstDue", "(I)I"⟩
abbrev bb_Queue_removeFirst : ByteArray := prog_8_method_6_code
def yy_Queue_removeFirst : MethodName := ⟨"OutletOffice$Queue", "removeFirst", "()V"⟩
abbrev bb_Site_init : ByteArray := prog_9_method_1_code
def yy_Site_init : MethodName := ⟨"OutletOffice$Site", "<init>", "()V"⟩
abbrev bb_Site_share : ByteArray := prog_9_method_2_code
def yy_Site_share : MethodName := ⟨"OutletOffice$Site", "share", "(I)V"⟩
abbrev bb_Site_safeCurrent : ByteArray := prog_9_method_3_code
def yy_Site_safeCurrent : MethodName := ⟨"OutletOffice$Site", "safeCurrent", "()I"⟩
abbrev bb_Site_choose : ByteArray := prog_9_method_4_code
def yy_Site_choose : MethodName := ⟨"OutletOffice$Site", "choose", "(II)V"⟩
abbrev bb_Site_greatestLevel : ByteArray := prog_9_method_5_code
def yy_Site_greatestLevel : MethodName := ⟨"OutletOffice$Site", "greatestLevel", "(I)I"⟩
abbrev bb_Site_takenAt : ByteArray := prog_9_method_6_code
def yy_Site_takenAt : MethodName := ⟨"OutletOffice$Site", "takenAt", "(I)I"⟩
abbrev bb_Tariff_init : ByteArray := prog_10_method_1_code
def yy_Tariff_init : MethodName := ⟨"OutletOffice$Tariff", "<init>", "()V"⟩
abbrev bb_Tariff_setBand : ByteArray := prog_10_method_2_code
def yy_Tariff_setBand : MethodName := ⟨"OutletOffice$Tariff", "setBand", "(III)V"⟩
abbrev bb_Tariff_priceAt : ByteArray := prog_10_method_3_code
def yy_Tariff_priceAt : MethodName := ⟨"OutletOffice$Tariff", "priceAt", "(I)I"⟩
abbrev bb_Tariff_latestBand : ByteArray := prog_10_method_4_code
def yy_Tariff_latestBand : MethodName := ⟨"OutletOffice$Tariff", "latestBand", "(I)I"⟩
abbrev bb_Law_limit : ByteArray := method_3_code
def yy_Law_limit : MethodName := ⟨"OutletOfficeLaw", "limit", "(LOutletOffice;II)I"⟩
abbrev bb_Law_band : ByteArray := method_4_code
def yy_Law_band : MethodName := ⟨"OutletOfficeLaw", "band", "(LOutletOffice;III)I"⟩
abbrev bb_Law_fees : ByteArray := method_5_code
def yy_Law_fees : MethodName := ⟨"OutletOfficeLaw", "fees", "(LOutletOffice;II)I"⟩
abbrev bb_Law_card : ByteArray := method_6_code
def yy_Law_card : MethodName := ⟨"OutletOfficeLaw", "card", "(LOutletOffice;III)I"⟩
abbrev bb_Law_copy : ByteArray := method_7_code
def yy_Law_copy : MethodName := ⟨"OutletOfficeLaw", "copy", "(LOutletOffice;I[J)I"⟩
abbrev bb_Law_car : ByteArray := method_8_code
def yy_Law_car : MethodName := ⟨"OutletOfficeLaw", "car", "(LOutletOffice;IIII[J)I"⟩
abbrev bb_Law_want : ByteArray := method_9_code
def yy_Law_want : MethodName := ⟨"OutletOfficeLaw", "want", "(LOutletOffice;II[J)I"⟩
abbrev bb_Law_leave : ByteArray := method_10_code
def yy_Law_leave : MethodName := ⟨"OutletOfficeLaw", "leave", "(LOutletOffice;I[J)I"⟩
abbrev bb_Law_show : ByteArray := method_11_code
def yy_Law_show : MethodName := ⟨"OutletOfficeLaw", "show", "(LOutletOffice;II[J)I"⟩
abbrev bb_Law_line : ByteArray := method_12_code
def yy_Law_line : MethodName := ⟨"OutletOfficeLaw", "line", "(LOutletOffice;IZ)I"⟩
abbrev bb_Law_power : ByteArray := method_13_code
def yy_Law_power : MethodName := ⟨"OutletOfficeLaw", "power", "(LOutletOffice;IZ)I"⟩
abbrev bb_Law_carry : ByteArray := method_14_code
def yy_Law_carry : MethodName := ⟨"OutletOfficeLaw", "carry", "(LOutletOffice;I[J)I"⟩
abbrev bb_Law_lose : ByteArray := method_15_code
def yy_Law_lose : MethodName := ⟨"OutletOfficeLaw", "lose", "(LOutletOffice;I[J)I"⟩
abbrev bb_Law_pass : ByteArray := method_16_code
def yy_Law_pass : MethodName := ⟨"OutletOfficeLaw", "pass", "(LOutletOffice;I[J)I"⟩
abbrev bb_Law_current : ByteArray := method_17_code
def yy_Law_current : MethodName := ⟨"OutletOfficeLaw", "current", "(LOutletOffice;I[J)I"⟩
abbrev bb_Law_sum : ByteArray := method_18_code
def yy_Law_sum : MethodName := ⟨"OutletOfficeLaw", "sum", "(LOutletOffice;I[J)I"⟩
abbrev bb_Law_meter : ByteArray := method_19_code
def yy_Law_meter : MethodName := ⟨"OutletOfficeLaw", "meter", "(LOutletOffice;I[J)I"⟩
abbrev bb_Law_about : ByteArray := method_20_code
def yy_Law_about : MethodName := ⟨"OutletOfficeLaw", "about", "(LOutletOffice;II[J)I"⟩
abbrev bb_Law_open : ByteArray := method_21_code
def yy_Law_open : MethodName := ⟨"OutletOfficeLaw", "open", "(LOutletOffice;I[J)I"⟩
abbrev bb_Law_bill : ByteArray := method_22_code
def yy_Law_bill : MethodName := ⟨"OutletOfficeLaw", "bill", "(LOutletOffice;II[J)I"⟩
abbrev bb_Law_total : ByteArray := method_23_code
def yy_Law_total : MethodName := ⟨"OutletOfficeLaw", "total", "(LOutletOffice;I[J)I"⟩
abbrev bb_Law_law : ByteArray := code
def yy_Law_law : MethodName := ⟨"OutletOfficeLaw", "law", "([I)Z"⟩
theorem kc_bp_112 : (Int8.ofInt 112).toInt32 = (112 : Int32) := by decide +kernel
theorem kc_bp_15 : (Int8.ofInt 15).toInt32 = (15 : Int32) := by decide +kernel
theorem kc_bp_16 : (Int8.ofInt 16).toInt32 = (16 : Int32) := by decide +kernel
theorem kc_bp_20 : (Int8.ofInt 20).toInt32 = (20 : Int32) := by decide +kernel
theorem kc_bp_22 : (Int8.ofInt 22).toInt32 = (22 : Int32) := by decide +kernel
theorem kc_bp_23 : (Int8.ofInt 23).toInt32 = (23 : Int32) := by decide +kernel
theorem kc_bp_24 : (Int8.ofInt 24).toInt32 = (24 : Int32) := by decide +kernel
theorem kc_bp_31 : (Int8.ofInt 31).toInt32 = (31 : Int32) := by decide +kernel
theorem kc_bp_6 : (Int8.ofInt 6).toInt32 = (6 : Int32) := by decide +kernel
theorem kc_bp_60 : (Int8.ofInt 60).toInt32 = (60 : Int32) := by decide +kernel
theorem kc_bp_9 : (Int8.ofInt 9).toInt32 = (9 : Int32) := by decide +kernel
theorem kc_ic_0 : Int32.ofInt 0 = (0 : Int32) := by decide +kernel
theorem kc_ic_1 : Int32.ofInt 1 = (1 : Int32) := by decide +kernel
theorem kc_ic_2 : Int32.ofInt 2 = (2 : Int32) := by decide +kernel
theorem kc_ic_3 : Int32.ofInt 3 = (3 : Int32) := by decide +kernel
theorem kc_ic_4 : Int32.ofInt 4 = (4 : Int32) := by decide +kernel
theorem kc_ic_5 : Int32.ofInt 5 = (5 : Int32) := by decide +kernel
theorem kc_ic_m1 : Int32.ofInt (-1) = ((-1) : Int32) := by decide +kernel
theorem kc_ii_1 : Int32.ofInt 1 = (1 : Int32) := by decide +kernel
theorem kc_ii_2 : Int32.ofInt 2 = (2 : Int32) := by decide +kernel
theorem kc_ii_5 : Int32.ofInt 5 = (5 : Int32) := by decide +kernel
theorem kc_ii_m1 : Int32.ofInt (-1) = ((-1) : Int32) := by decide +kernel
theorem kc_lc_0 : Int64.ofNat ((0 : Fin 2) : Nat) = (0 : Int64) := by decide +kernel
theorem kc_lc_1 : Int64.ofNat ((1 : Fin 2) : Nat) = (1 : Int64) := by decide +kernel
theorem kc_sp_128 : (Int16.ofInt 128).toInt32 = (128 : Int32) := by decide +kernel
theorem kc_sp_1439 : (Int16.ofInt 1439).toInt32 = (1439 : Int32) := by decide +kernel
theorem kc_sp_144 : (Int16.ofInt 144).toInt32 = (144 : Int32) := by decide +kernel
theorem kc_sp_1440 : (Int16.ofInt 1440).toInt32 = (1440 : Int32) := by decide +kernel
theorem kc_sp_2000 : (Int16.ofInt 2000).toInt32 = (2000 : Int32) := by decide +kernel
theorem kc_sp_256 : (Int16.ofInt 256).toInt32 = (256 : Int32) := by decide +kernel
theorem kc_sp_320 : (Int16.ofInt 320).toInt32 = (320 : Int32) := by decide +kernel
theorem kc_sp_3600 : (Int16.ofInt 3600).toInt32 = (3600 : Int32) := by decide +kernel
theorem kc_sp_480 : (Int16.ofInt 480).toInt32 = (480 : Int32) := by decide +kernel
theorem kc_sp_640 : (Int16.ofInt 640).toInt32 = (640 : Int32) := by decide +kernel
theorem kc_sp_864 : (Int16.ofInt 864).toInt32 = (864 : Int32) := by decide +kernel
theorem kc_sp_900 : (Int16.ofInt 900).toInt32 = (900 : Int32) := by decide +kernel
set_option maxRecDepth 100000 in
theorem ts_1 : Cond.selects "OutletOffice" ⟨"OutletOffice", "pointAt", "(I)LOutletOffice$Point;"⟩ ⟨"OutletOffice", "pointAt", "(I)LOutletOffice$Point;"⟩ ∈ TB := tb_of (i := 1) rfl rfl
set_option maxRecDepth 100000 in
theorem ts_10 : Cond.selects "OutletOffice$Site" ⟨"OutletOffice$Site", "takenAt", "(I)I"⟩ ⟨"OutletOffice$Site", "takenAt", "(I)I"⟩ ∈ TB := tb_of (i := 10) rfl rfl
set_option maxRecDepth 100000 in
theorem ts_11 : Cond.selects "OutletOffice$Point" ⟨"OutletOffice$Point", "hasRoomForReading", "()Z"⟩ ⟨"OutletOffice$Point", "hasRoomForReading", "()Z"⟩ ∈ TB := tb_of (i := 11) rfl rfl
set_option maxRecDepth 100000 in
theorem ts_12 : Cond.selects "OutletOffice$Point" ⟨"OutletOffice$Point", "waitsToSend", "()Z"⟩ ⟨"OutletOffice$Point", "waitsToSend", "()Z"⟩ ∈ TB := tb_of (i := 12) rfl rfl
set_option maxRecDepth 100000 in
theorem ts_13 : Cond.selects "OutletOffice" ⟨"OutletOffice", "goOn", "(I)V"⟩ ⟨"OutletOffice", "goOn", "(I)V"⟩ ∈ TB := tb_of (i := 13) rfl rfl
set_option maxRecDepth 100000 in
theorem ts_14 : Cond.selects "OutletOfficeModel" ⟨"OutletOfficeModel", "noPoint", "(I)Z"⟩ ⟨"OutletOfficeModel", "noPoint", "(I)Z"⟩ ∈ TB := tb_of (i := 14) rfl rfl
set_option maxRecDepth 100000 in
theorem ts_15 : Cond.selects "OutletOfficeModel" ⟨"OutletOfficeModel", "runs", "(I)Z"⟩ ⟨"OutletOfficeModel", "runs", "(I)Z"⟩ ∈ TB := tb_of (i := 15) rfl rfl
set_option maxRecDepth 100000 in
theorem ts_16 : Cond.selects "OutletOfficeModel" ⟨"OutletOfficeModel", "idle", "(I)I"⟩ ⟨"OutletOfficeModel", "idle", "(I)I"⟩ ∈ TB := tb_of (i := 16) rfl rfl
set_option maxRecDepth 100000 in
theorem ts_17 : Cond.selects "OutletOfficeModel" ⟨"OutletOfficeModel", "ends", "(II)V"⟩ ⟨"OutletOfficeModel", "ends", "(II)V"⟩ ∈ TB := tb_of (i := 17) rfl rfl
set_option maxRecDepth 100000 in
theorem ts_18 : Cond.selects "OutletOfficeModel" ⟨"OutletOfficeModel", "put", "(III)V"⟩ ⟨"OutletOfficeModel", "put", "(III)V"⟩ ∈ TB := tb_of (i := 18) rfl rfl
set_option maxRecDepth 100000 in
theorem ts_19 : Cond.selects "OutletOfficeModel" ⟨"OutletOfficeModel", "list", "(I)I"⟩ ⟨"OutletOfficeModel", "list", "(I)I"⟩ ∈ TB := tb_of (i := 19) rfl rfl
set_option maxRecDepth 100000 in
theorem ts_2 : Cond.selects "OutletOffice$Point" ⟨"OutletOffice$Point", "tell", "(III)V"⟩ ⟨"OutletOffice$Point", "tell", "(III)V"⟩ ∈ TB := tb_of (i := 2) rfl rfl
set_option maxRecDepth 100000 in
theorem ts_20 : Cond.selects "OutletOfficeModel" ⟨"OutletOfficeModel", "takeIn", "(I)V"⟩ ⟨"OutletOfficeModel", "takeIn", "(I)V"⟩ ∈ TB := tb_of (i := 20) rfl rfl
set_option maxRecDepth 100000 in
theorem ts_21 : Cond.selects "OutletOfficeModel" ⟨"OutletOfficeModel", "charge", "(IJI)V"⟩ ⟨"OutletOfficeModel", "charge", "(IJI)V"⟩ ∈ TB := tb_of (i := 21) rfl rfl
set_option maxRecDepth 100000 in
theorem ts_22 : Cond.selects "OutletOfficeModel" ⟨"OutletOfficeModel", "priceAt", "(I)I"⟩ ⟨"OutletOfficeModel", "priceAt", "(I)I"⟩ ∈ TB := tb_of (i := 22) rfl rfl
set_option maxRecDepth 100000 in
theorem ts_23 : Cond.selects "OutletOfficeModel" ⟨"OutletOfficeModel", "close", "(I)V"⟩ ⟨"OutletOfficeModel", "close", "(I)V"⟩ ∈ TB := tb_of (i := 23) rfl rfl
set_option maxRecDepth 100000 in
theorem ts_24 : Cond.selects "OutletOfficeModel" ⟨"OutletOfficeModel", "goes", "(I)V"⟩ ⟨"OutletOfficeModel", "goes", "(I)V"⟩ ∈ TB := tb_of (i := 24) rfl rfl
set_option maxRecDepth 100000 in
theorem ts_25 : Cond.selects "OutletOfficeModel" ⟨"OutletOfficeModel", "second", "()V"⟩ ⟨"OutletOfficeModel", "second", "()V"⟩ ∈ TB := tb_of (i := 25) rfl rfl
set_option maxRecDepth 100000 in
theorem ts_26 : Cond.selects "OutletOfficeModel" ⟨"OutletOfficeModel", "reckonAll", "()V"⟩ ⟨"OutletOfficeModel", "reckonAll", "()V"⟩ ∈ TB := tb_of (i := 26) rfl rfl
set_option maxRecDepth 100000 in
theorem ts_27 : Cond.selects "OutletOfficeModel" ⟨"OutletOfficeModel", "reckon", "(I)V"⟩ ⟨"OutletOfficeModel", "reckon", "(I)V"⟩ ∈ TB := tb_of (i := 27) rfl rfl
set_option maxRecDepth 100000 in
theorem ts_28 : Cond.selects "OutletOfficeModel" ⟨"OutletOfficeModel", "isActive", "(I)Z"⟩ ⟨"OutletOfficeModel", "isActive", "(I)Z"⟩ ∈ TB := tb_of (i := 28) rfl rfl
set_option maxRecDepth 100000 in
theorem ts_29 : Cond.selects "OutletOfficeModel" ⟨"OutletOfficeModel", "wantsNow", "(I)I"⟩ ⟨"OutletOfficeModel", "wantsNow", "(I)I"⟩ ∈ TB := tb_of (i := 29) rfl rfl
set_option maxRecDepth 100000 in
theorem ts_3 : Cond.selects "OutletOffice$Point" ⟨"OutletOffice$Point", "dropIfUnreachable", "()V"⟩ ⟨"OutletOffice$Point", "dropIfUnreachable", "()V"⟩ ∈ TB := tb_of (i := 3) rfl rfl
set_option maxRecDepth 100000 in
theorem ts_4 : Cond.selects "OutletOffice$Tariff" ⟨"OutletOffice$Tariff", "latestBand", "(I)I"⟩ ⟨"OutletOffice$Tariff", "latestBand", "(I)I"⟩ ∈ TB := tb_of (i := 4) rfl rfl
set_option maxRecDepth 100000 in
theorem ts_5 : Cond.selects "OutletOffice$Office" ⟨"OutletOffice$Office", "close", "(ILOutletOffice$Bill;)V"⟩ ⟨"OutletOffice$Office", "close", "(ILOutletOffice$Bill;)V"⟩ ∈ TB := tb_of (i := 5) rfl rfl
set_option maxRecDepth 100000 in
theorem ts_6 : Cond.selects "OutletOffice" ⟨"OutletOffice", "evenSeconds", "(I)I"⟩ ⟨"OutletOffice", "evenSeconds", "(I)I"⟩ ∈ TB := tb_of (i := 6) rfl rfl
set_option maxRecDepth 100000 in
theorem ts_7 : Cond.selects "OutletOffice$Site" ⟨"OutletOffice$Site", "safeCurrent", "()I"⟩ ⟨"OutletOffice$Site", "safeCurrent", "()I"⟩ ∈ TB := tb_of (i := 7) rfl rfl
set_option maxRecDepth 100000 in
theorem ts_8 : Cond.selects "OutletOffice$Site" ⟨"OutletOffice$Site", "choose", "(II)V"⟩ ⟨"OutletOffice$Site", "choose", "(II)V"⟩ ∈ TB := tb_of (i := 8) rfl rfl
set_option maxRecDepth 100000 in
theorem ts_9 : Cond.selects "OutletOffice$Site" ⟨"OutletOffice$Site", "greatestLevel", "(I)I"⟩ ⟨"OutletOffice$Site", "greatestLevel", "(I)I"⟩ ∈ TB := tb_of (i := 9) rfl rfl
set_option maxRecDepth 100000 in
theorem tw_0 : Cond.initialized "OutletOfficeLaw" ∈ TB := tb_of (i := 30) rfl rfl
set_option maxRecDepth 100000 in
theorem tw_1 : Cond.initialized "OutletOffice" ∈ TB := tb_of (i := 31) rfl rfl
set_option maxRecDepth 100000 in
theorem tw_10 : Cond.initialized "OutletOffice$Message" ∈ TB := tb_of (i := 40) rfl rfl
set_option maxRecDepth 100000 in
theorem tw_1000 : Cond.methodLink "OutletOfficeModel" 179 ⟨"OutletOfficeModel", "close", "(I)V"⟩ ∈ TB := tb_of (i := 1030) rfl rfl
set_option maxRecDepth 100000 in
theorem tw_1002 : Cond.instanceMethod ⟨"OutletOfficeModel", "close", "(I)V"⟩ ∈ TB := tb_of (i := 1032) rfl rfl
set_option maxRecDepth 100000 in
theorem tw_1003 : Cond.code yy_M_close bb_M_close 4 (none : Option Jvm.ClassFile.FieldType) ∈ TB := tb_of (i := 1033) rfl rfl
set_option maxRecDepth 100000 in
theorem tw_1004 : Cond.constantLong "OutletOfficeModel" 168 5000 ∈ TB := tb_of (i := 1034) rfl rfl
set_option maxRecDepth 100000 in
theorem tw_1005 : Cond.constantLong "OutletOfficeModel" 170 10000 ∈ TB := tb_of (i := 1035) rfl rfl
set_option maxRecDepth 100000 in
theorem tw_1006 : Cond.methodLink "OutletOfficeModel" 186 ⟨"OutletOfficeModel", "goes", "(I)V"⟩ ∈ TB := tb_of (i := 1036) rfl rfl
set_option maxRecDepth 100000 in
theorem tw_1008 : Cond.instanceMethod ⟨"OutletOfficeModel", "goes", "(I)V"⟩ ∈ TB := tb_of (i := 1038) rfl rfl
set_option maxRecDepth 100000 in
theorem tw_1009 : Cond.code yy_M_goes bb_M_goes 4 (none : Option Jvm.ClassFile.FieldType) ∈ TB := tb_of (i := 1039) rfl rfl
set_option maxRecDepth 100000 in
theorem tw_1010 : Cond.methodLink "OutletOfficeLaw" 139 ⟨"OutletOfficeModel", "lose", "(I)Z"⟩ ∈ TB := tb_of (i := 1040) rfl rfl
set_option maxRecDepth 100000 in
theorem tw_1011 : Cond.instanceMethod ⟨"OutletOfficeModel", "lose", "(I)Z"⟩ ∈ TB := tb_of (i := 1041) rfl rfl
set_option maxRecDepth 100000 in
theorem tw_1012 : Cond.selects "OutletOfficeModel" ⟨"OutletOfficeModel", "lose", "(I)Z"⟩ ⟨"OutletOfficeModel", "lose", "(I)Z"⟩ ∈ TB := tb_of (i := 1042) rfl rfl
set_option maxRecDepth 100000 in
theorem tw_1013 : Cond.code yy_M_lose bb_M_lose 2 (some .boolean) ∈ TB := tb_of (i := 1043) rfl rfl
set_option maxRecDepth 100000 in
theorem tw_1014 : Cond.methodLink "OutletOfficeLaw" 142 ⟨"OutletOfficeModel", "pass", "(I)I"⟩ ∈ TB := tb_of (i := 1044) rfl rfl
set_option maxRecDepth 100000 in
theorem tw_1015 : Cond.instanceMethod ⟨"OutletOfficeModel", "pass", "(I)I"⟩ ∈ TB := tb_of (i := 1045) rfl rfl
set_option maxRecDepth 100000 in
theorem tw_1016 : Cond.selects "OutletOfficeModel" ⟨"OutletOfficeModel", "pass", "(I)I"⟩ ⟨"OutletOfficeModel", "pass", "(I)I"⟩ ∈ TB := tb_of (i := 1046) rfl rfl
set_option maxRecDepth 100000 in
theorem tw_1017 : Cond.code yy_M_pass bb_M_pass 3 (some .int) ∈ TB := tb_of (i := 1047) rfl rfl
set_option maxRecDepth 100000 in
theorem tw_1018 : Cond.constant "OutletOfficeModel" 207 86400 ∈ TB := tb_of (i := 1048) rfl rfl
set_option maxRecDepth 100000 in
theorem tw_1019 : Cond.constant "OutletOfficeModel" 208 1000000000 ∈ TB := tb_of (i := 1049) rfl rfl
set_option maxRecDepth 100000 in
theorem tw_1020 : Cond.methodLink "OutletOfficeModel" 209 ⟨"OutletOfficeModel", "second", "()V"⟩ ∈ TB := tb_of (i := 1050) rfl rfl
set_option maxRecDepth 100000 in
theorem tw_1022 : Cond.instanceMethod ⟨"OutletOfficeModel", "second", "()V"⟩ ∈ TB := tb_of (i := 1052) rfl rfl
set_option maxRecDepth 100000 in
theorem tw_1023 : Cond.code yy_M_second bb_M_second 6 (none : Option Jvm.ClassFile.FieldType) ∈ TB := tb_of (i := 1053) rfl rfl
set_option maxRecDepth 100000 in
theorem tw_1024 : Cond.methodLink "OutletOfficeModel" 202 ⟨"OutletOfficeModel", "reckonAll", "()V"⟩ ∈ TB := tb_of (i := 1054) rfl rfl
set_option maxRecDepth 100000 in
theorem tw_1026 : Cond.instanceMethod ⟨"OutletOfficeModel", "reckonAll", "()V"⟩ ∈ TB := tb_of (i := 1056) rfl rfl
set_option maxRecDepth 100000 in
theorem tw_1027 : Cond.code yy_M_reckonAll bb_M_reckonAll 1 (none : Option Jvm.ClassFile.FieldType) ∈ TB := tb_of (i := 1057) rfl rfl
set_option maxRecDepth 100000 in
theorem tw_1028 : Cond.methodLink "OutletOfficeModel" 199 ⟨"OutletOfficeModel", "reckon", "(I)V"⟩ ∈ TB := tb_of (i := 1058) rfl rfl
set_option maxRecDepth 100000 in
theorem tw_1030 : Cond.instanceMethod ⟨"OutletOfficeModel", "reckon", "(I)V"⟩ ∈ TB := tb_of (i := 1060) rfl rfl
set_option maxRecDepth 100000 in
theorem tw_1031 : Cond.code yy_M_reckon bb_M_reckon 15 (none : Option Jvm.ClassFile.FieldType) ∈ TB := tb_of (i := 1061) rfl rfl
set_option maxRecDepth 100000 in
theorem tw_1032 : Cond.methodLink "OutletOfficeModel" 192 ⟨"OutletOfficeModel", "isActive", "(I)Z"⟩ ∈ TB := tb_of (i := 1062) rfl rfl
set_option maxRecDepth 100000 in
theorem tw_1034 : Cond.instanceMethod ⟨"OutletOfficeModel", "isActive", "(I)Z"⟩ ∈ TB := tb_of (i := 1064) rfl rfl
set_option maxRecDepth 100000 in
theorem tw_1035 : Cond.code yy_M_isActive bb_M_isActive 2 (some .boolean) ∈ TB := tb_of (i := 1065) rfl rfl
set_option maxRecDepth 100000 in
theorem tw_1036 : Cond.methodLink "OutletOfficeModel" 189 ⟨"OutletOfficeModel", "wantsNow", "(I)I"⟩ ∈ TB := tb_of (i := 1066) rfl rfl
set_option maxRecDepth 100000 in
theorem tw_1038 : Cond.instanceMethod ⟨"OutletOfficeModel", "wantsNow", "(I)I"⟩ ∈ TB := tb_of (i := 1068) rfl rfl
set_option maxRecDepth 100000 in
theorem tw_1039 : Cond.code yy_M_wantsNow bb_M_wantsNow 2 (some .int) ∈ TB := tb_of (i := 1069) rfl rfl
set_option maxRecDepth 100000 in
theorem tw_1040 : Cond.methodLink "OutletOfficeModel" 195 ⟨"OutletOfficeModel", "share", "(III)I"⟩ ∈ TB := tb_of (i := 1070) rfl rfl
set_option maxRecDepth 100000 in
theorem tw_1041 : Cond.static ⟨"OutletOfficeModel", "share", "(III)I"⟩ ∈ TB := tb_of (i := 1071) rfl rfl
set_option maxRecDepth 100000 in
theorem tw_1042 : Cond.code yy_M_share bb_M_share 4 (some .int) ∈ TB := tb_of (i := 1072) rfl rfl
set_option maxRecDepth 100000 in
theorem tw_1043 : Cond.constantLong "OutletOfficeModel" 205 23 ∈ TB := tb_of (i := 1073) rfl rfl
set_option maxRecDepth 100000 in
theorem tw_1044 : Cond.methodLink "OutletOfficeLaw" 146 ⟨"OutletOfficeModel", "time", "()I"⟩ ∈ TB := tb_of (i := 1074) rfl rfl
set_option maxRecDepth 100000 in
theorem tw_1045 : Cond.instanceMethod ⟨"OutletOfficeModel", "time", "()I"⟩ ∈ TB := tb_of (i := 1075) rfl rfl
set_option maxRecDepth 100000 in
theorem tw_1046 : Cond.selects "OutletOfficeModel" ⟨"OutletOfficeModel", "time", "()I"⟩ ⟨"OutletOfficeModel", "time", "()I"⟩ ∈ TB := tb_of (i := 1076) rfl rfl
set_option maxRecDepth 100000 in
theorem tw_1047 : Cond.code yy_M_time bb_M_time 1 (some .int) ∈ TB := tb_of (i := 1077) rfl rfl
set_option maxRecDepth 100000 in
theorem tw_1048 : Cond.methodLink "OutletOfficeLaw" 149 ⟨"OutletOfficeModel", "current", "(I)I"⟩ ∈ TB := tb_of (i := 1078) rfl rfl
set_option maxRecDepth 100000 in
theorem tw_1049 : Cond.instanceMethod ⟨"OutletOfficeModel", "current", "(I)I"⟩ ∈ TB := tb_of (i := 1079) rfl rfl
set_option maxRecDepth 100000 in
theorem tw_1050 : Cond.selects "OutletOfficeModel" ⟨"OutletOfficeModel", "current", "(I)I"⟩ ⟨"OutletOfficeModel", "current", "(I)I"⟩ ∈ TB := tb_of (i := 1080) rfl rfl
set_option maxRecDepth 100000 in
theorem tw_1051 : Cond.code yy_M_current bb_M_current 2 (some .int) ∈ TB := tb_of (i := 1081) rfl rfl
set_option maxRecDepth 100000 in
theorem tw_1052 : Cond.methodLink "OutletOfficeLaw" 152 ⟨"OutletOfficeModel", "sum", "(I)I"⟩ ∈ TB := tb_of (i := 1082) rfl rfl
set_option maxRecDepth 100000 in
theorem tw_1053 : Cond.instanceMethod ⟨"OutletOfficeModel", "sum", "(I)I"⟩ ∈ TB := tb_of (i := 1083) rfl rfl
set_option maxRecDepth 100000 in
theorem tw_1054 : Cond.selects "OutletOfficeModel" ⟨"OutletOfficeModel", "sum", "(I)I"⟩ ⟨"OutletOfficeModel", "sum", "(I)I"⟩ ∈ TB := tb_of (i := 1084) rfl rfl
set_option maxRecDepth 100000 in
theorem tw_1055 : Cond.code yy_M_sum bb_M_sum 2 (some .int) ∈ TB := tb_of (i := 1085) rfl rfl
set_option maxRecDepth 100000 in
theorem tw_1056 : Cond.methodLink "OutletOfficeLaw" 155 ⟨"OutletOfficeModel", "meter", "(I)J"⟩ ∈ TB := tb_of (i := 1086) rfl rfl
set_option maxRecDepth 100000 in
theorem tw_1057 : Cond.instanceMethod ⟨"OutletOfficeModel", "meter", "(I)J"⟩ ∈ TB := tb_of (i := 1087) rfl rfl
set_option maxRecDepth 100000 in
theorem tw_1058 : Cond.selects "OutletOfficeModel" ⟨"OutletOfficeModel", "meter", "(I)J"⟩ ⟨"OutletOfficeModel", "meter", "(I)J"⟩ ∈ TB := tb_of (i := 1088) rfl rfl
set_option maxRecDepth 100000 in
theorem tw_1059 : Cond.code yy_M_meter bb_M_meter 2 (some .long) ∈ TB := tb_of (i := 1089) rfl rfl
set_option maxRecDepth 100000 in
theorem tw_1060 : Cond.methodLink "OutletOfficeLaw" 158 ⟨"OutletOfficeModel", "about", "(II)I"⟩ ∈ TB := tb_of (i := 1090) rfl rfl
set_option maxRecDepth 100000 in
theorem tw_1061 : Cond.instanceMethod ⟨"OutletOfficeModel", "about", "(II)I"⟩ ∈ TB := tb_of (i := 1091) rfl rfl
set_option maxRecDepth 100000 in
theorem tw_1062 : Cond.selects "OutletOfficeModel" ⟨"OutletOfficeModel", "about", "(II)I"⟩ ⟨"OutletOfficeModel", "about", "(II)I"⟩ ∈ TB := tb_of (i := 1092) rfl rfl
set_option maxRecDepth 100000 in
theorem tw_1063 : Cond.code yy_M_about bb_M_about 3 (some .int) ∈ TB := tb_of (i := 1093) rfl rfl
set_option maxRecDepth 100000 in
theorem tw_1064 : Cond.methodLink "OutletOfficeLaw" 161 ⟨"OutletOfficeModel", "open", "(I)J"⟩ ∈ TB := tb_of (i := 1094) rfl rfl
set_option maxRecDepth 100000 in
theorem tw_1065 : Cond.instanceMethod ⟨"OutletOfficeModel", "open", "(I)J"⟩ ∈ TB := tb_of (i := 1095) rfl rfl
set_option maxRecDepth 100000 in
theorem tw_1066 : Cond.selects "OutletOfficeModel" ⟨"OutletOfficeModel", "open", "(I)J"⟩ ⟨"OutletOfficeModel", "open", "(I)J"⟩ ∈ TB := tb_of (i := 1096) rfl rfl
set_option maxRecDepth 100000 in
theorem tw_1067 : Cond.code yy_M_open bb_M_open 2 (some .long) ∈ TB := tb_of (i := 1097) rfl rfl
set_option maxRecDepth 100000 in
theorem tw_1068 : Cond.constantLong "OutletOfficeModel" 212 (-1) ∈ TB := tb_of (i := 1098) rfl rfl
set_option maxRecDepth 100000 in
theorem tw_1069 : Cond.methodLink "OutletOfficeLaw" 165 ⟨"OutletOfficeModel", "bills", "()I"⟩ ∈ TB := tb_of (i := 1099) rfl rfl
set_option maxRecDepth 100000 in
theorem tw_1070 : Cond.instanceMethod ⟨"OutletOfficeModel", "bills", "()I"⟩ ∈ TB := tb_of (i := 1100) rfl rfl
set_option maxRecDepth 100000 in
theorem tw_1071 : Cond.selects "OutletOfficeModel" ⟨"OutletOfficeModel", "bills", "()I"⟩ ⟨"OutletOfficeModel", "bills", "()I"⟩ ∈ TB := tb_of (i := 1101) rfl rfl
set_option maxRecDepth 100000 in
theorem tw_1072 : Cond.code yy_M_bills bb_M_bills 1 (some .int) ∈ TB := tb_of (i := 1102) rfl rfl
set_option maxRecDepth 100000 in
theorem tw_1073 : Cond.methodLink "OutletOfficeLaw" 168 ⟨"OutletOfficeModel", "bill", "(II)I"⟩ ∈ TB := tb_of (i := 1103) rfl rfl
set_option maxRecDepth 100000 in
theorem tw_1074 : Cond.instanceMethod ⟨"OutletOfficeModel", "bill", "(II)I"⟩ ∈ TB := tb_of (i := 1104) rfl rfl
set_option maxRecDepth 100000 in
theorem tw_1075 : Cond.selects "OutletOfficeModel" ⟨"OutletOfficeModel", "bill", "(II)I"⟩ ⟨"OutletOfficeModel", "bill", "(II)I"⟩ ∈ TB := tb_of (i := 1105) rfl rfl
set_option maxRecDepth 100000 in
theorem tw_1076 : Cond.code yy_M_bill bb_M_bill 3 (some .int) ∈ TB := tb_of (i := 1106) rfl rfl
set_option maxRecDepth 100000 in
theorem tw_1077 : Cond.methodLink "OutletOfficeLaw" 171 ⟨"OutletOfficeModel", "total", "(I)J"⟩ ∈ TB := tb_of (i := 1107) rfl rfl
set_option maxRecDepth 100000 in
theorem tw_1078 : Cond.instanceMethod ⟨"OutletOfficeModel", "total", "(I)J"⟩ ∈ TB := tb_of (i := 1108) rfl rfl
set_option maxRecDepth 100000 in
theorem tw_1079 : Cond.selects "OutletOfficeModel" ⟨"OutletOfficeModel", "total", "(I)J"⟩ ⟨"OutletOfficeModel", "total", "(I)J"⟩ ∈ TB := tb_of (i := 1109) rfl rfl
set_option maxRecDepth 100000 in
theorem tw_1080 : Cond.code yy_M_total bb_M_total 2 (some .long) ∈ TB := tb_of (i := 1110) rfl rfl
set_option maxRecDepth 100000 in
theorem tw_11 : Cond.initialized "OutletOfficeModel" ∈ TB := tb_of (i := 41) rfl rfl
set_option maxRecDepth 100000 in
theorem tw_110 : Cond.arrayClass .long ∈ TB := tb_of (i := 140) rfl rfl
set_option maxRecDepth 100000 in
theorem tw_111 : Cond.fieldLink "OutletOffice$Office" 12 "OutletOffice$Office" "cards" "LOutletOffice$CardList;" ∈ TB := tb_of (i := 141) rfl rfl
set_option maxRecDepth 100000 in
theorem tw_112 : Cond.fieldLink "OutletOffice" 55 "OutletOffice$Office" "cards" "LOutletOffice$CardList;" ∈ TB := tb_of (i := 142) rfl rfl
set_option maxRecDepth 100000 in
theorem tw_113 : Cond.fieldLink "OutletOffice$Office" 21 "OutletOffice$Office" "tariff" "LOutletOffice$Tariff;" ∈ TB := tb_of (i := 143) rfl rfl
set_option maxRecDepth 100000 in
theorem tw_114 : Cond.fieldLink "OutletOffice" 39 "OutletOffice$Office" "tariff" "LOutletOffice$Tariff;" ∈ TB := tb_of (i := 144) rfl rfl
set_option maxRecDepth 100000 in
theorem tw_115 : Cond.fieldLink "OutletOffice$Office" 27 "OutletOffice$Office" "openBills" "[LOutletOffice$Bill;" ∈ TB := tb_of (i := 145) rfl rfl
set_option maxRecDepth 100000 in
theorem tw_116 : Cond.fieldLink "OutletOffice" 195 "OutletOffice$Office" "openBills" "[LOutletOffice$Bill;" ∈ TB := tb_of (i := 146) rfl rfl
set_option maxRecDepth 100000 in
theorem tw_117 : Cond.fieldLink "OutletOffice$Office" 31 "OutletOffice$Office" "closedRows" "[I" ∈ TB := tb_of (i := 147) rfl rfl
set_option maxRecDepth 100000 in
theorem tw_118 : Cond.fieldLink "OutletOffice" 218 "OutletOffice$Office" "closedRows" "[I" ∈ TB := tb_of (i := 148) rfl rfl
set_option maxRecDepth 100000 in
theorem tw_119 : Cond.fieldLink "OutletOffice$Office" 35 "OutletOffice$Office" "centsOfCards" "[J" ∈ TB := tb_of (i := 149) rfl rfl
set_option maxRecDepth 100000 in
theorem tw_120 : Cond.fieldLink "OutletOffice" 222 "OutletOffice$Office" "centsOfCards" "[J" ∈ TB := tb_of (i := 150) rfl rfl
set_option maxRecDepth 100000 in
theorem tw_121 : Cond.fieldLink "OutletOffice$Office" 39 "OutletOffice$Office" "closedCount" "I" ∈ TB := tb_of (i := 151) rfl rfl
set_option maxRecDepth 100000 in
theorem tw_122 : Cond.fieldLink "OutletOffice" 209 "OutletOffice$Office" "closedCount" "I" ∈ TB := tb_of (i := 152) rfl rfl
set_option maxRecDepth 100000 in
theorem tw_123 : Cond.fieldLink "OutletOffice$Office" 43 "OutletOffice$Office" "latestNumbers" "[I" ∈ TB := tb_of (i := 153) rfl rfl
set_option maxRecDepth 100000 in
theorem tw_139 : Cond.instantiable "OutletOffice$Site" 2 ∈ TB := tb_of (i := 169) rfl rfl
set_option maxRecDepth 100000 in
theorem tw_140 : Cond.methodLink "OutletOffice" 26 ⟨"OutletOffice$Site", "<init>", "()V"⟩ ∈ TB := tb_of (i := 170) rfl rfl
set_option maxRecDepth 100000 in
theorem tw_141 : Cond.instanceMethod ⟨"OutletOffice$Site", "<init>", "()V"⟩ ∈ TB := tb_of (i := 171) rfl rfl
set_option maxRecDepth 100000 in
theorem tw_142 : Cond.code yy_Site_init bb_Site_init 2 (none : Option Jvm.ClassFile.FieldType) ∈ TB := tb_of (i := 172) rfl rfl
set_option maxRecDepth 100000 in
theorem tw_143 : Cond.methodLink "OutletOffice$Site" 3 ⟨"java/lang/Object", "<init>", "()V"⟩ ∈ TB := tb_of (i := 173) rfl rfl
set_option maxRecDepth 100000 in
theorem tw_144 : Cond.classLink "OutletOffice$Site" 9 "OutletOffice$Point" ∈ TB := tb_of (i := 174) rfl rfl
set_option maxRecDepth 100000 in
theorem tw_146 : Cond.instantiable "OutletOffice$Point" 12 ∈ TB := tb_of (i := 176) rfl rfl
set_option maxRecDepth 100000 in
theorem tw_148 : Cond.instanceMethod ⟨"OutletOffice$Point", "<init>", "()V"⟩ ∈ TB := tb_of (i := 178) rfl rfl
set_option maxRecDepth 100000 in
theorem tw_149 : Cond.code yy_Point_init bb_Point_init 1 (none : Option Jvm.ClassFile.FieldType) ∈ TB := tb_of (i := 179) rfl rfl
set_option maxRecDepth 100000 in
theorem tw_15 : Cond.initialized "java/lang/IndexOutOfBoundsException" ∈ TB := tb_of (i := 45) rfl rfl
set_option maxRecDepth 100000 in
theorem tw_150 : Cond.methodLink "OutletOffice$Point" 3 ⟨"java/lang/Object", "<init>", "()V"⟩ ∈ TB := tb_of (i := 180) rfl rfl
set_option maxRecDepth 100000 in
theorem tw_151 : Cond.classLink "OutletOffice$Point" 9 "OutletOffice$Car" ∈ TB := tb_of (i := 181) rfl rfl
set_option maxRecDepth 100000 in
theorem tw_152 : Cond.instantiable "OutletOffice$Car" 6 ∈ TB := tb_of (i := 182) rfl rfl
set_option maxRecDepth 100000 in
theorem tw_154 : Cond.instanceMethod ⟨"OutletOffice$Car", "<init>", "()V"⟩ ∈ TB := tb_of (i := 184) rfl rfl
set_option maxRecDepth 100000 in
theorem tw_155 : Cond.code yy_Car_init bb_Car_init 1 (none : Option Jvm.ClassFile.FieldType) ∈ TB := tb_of (i := 185) rfl rfl
set_option maxRecDepth 100000 in
theorem tw_156 : Cond.methodLink "OutletOffice$Car" 1 ⟨"java/lang/Object", "<init>", "()V"⟩ ∈ TB := tb_of (i := 186) rfl rfl
set_option maxRecDepth 100000 in
theorem tw_157 : Cond.fieldLink "OutletOffice$Car" 7 "OutletOffice$Car" "here" "Z" ∈ TB := tb_of (i := 187) rfl rfl
set_option maxRecDepth 100000 in
theorem tw_158 : Cond.fieldLink "OutletOffice$Point" 81 "OutletOffice$Car" "here" "Z" ∈ TB := tb_of (i := 188) rfl rfl
set_option maxRecDepth 100000 in
theorem tw_159 : Cond.fieldLink "OutletOffice" 83 "OutletOffice$Car" "here" "Z" ∈ TB := tb_of (i := 189) rfl rfl
set_option maxRecDepth 100000 in
theorem tw_16 : Cond.initialized "java/lang/IllegalArgumentException" ∈ TB := tb_of (i := 46) rfl rfl
set_option maxRecDepth 100000 in
theorem tw_160 : Cond.fieldLink "OutletOffice$Car" 13 "OutletOffice$Car" "full" "Z" ∈ TB := tb_of (i := 190) rfl rfl
set_option maxRecDepth 100000 in
theorem tw_161 : Cond.fieldLink "OutletOffice" 92 "OutletOffice$Car" "full" "Z" ∈ TB := tb_of (i := 191) rfl rfl
set_option maxRecDepth 100000 in
theorem tw_162 : Cond.fieldLink "OutletOffice$Car" 16 "OutletOffice$Car" "wants" "I" ∈ TB := tb_of (i := 192) rfl rfl
set_option maxRecDepth 100000 in
theorem tw_163 : Cond.fieldLink "OutletOffice$Site" 41 "OutletOffice$Car" "wants" "I" ∈ TB := tb_of (i := 193) rfl rfl
set_option maxRecDepth 100000 in
theorem tw_164 : Cond.fieldLink "OutletOffice$Point" 66 "OutletOffice$Car" "wants" "I" ∈ TB := tb_of (i := 194) rfl rfl
set_option maxRecDepth 100000 in
theorem tw_165 : Cond.fieldLink "OutletOffice" 95 "OutletOffice$Car" "wants" "I" ∈ TB := tb_of (i := 195) rfl rfl
set_option maxRecDepth 100000 in
theorem tw_166 : Cond.fieldLink "OutletOffice$Car" 20 "OutletOffice$Car" "weight" "I" ∈ TB := tb_of (i := 196) rfl rfl
set_option maxRecDepth 100000 in
theorem tw_167 : Cond.fieldLink "OutletOffice$Point" 69 "OutletOffice$Car" "weight" "I" ∈ TB := tb_of (i := 197) rfl rfl
set_option maxRecDepth 100000 in
theorem tw_168 : Cond.fieldLink "OutletOffice$Car" 23 "OutletOffice$Car" "hunger" "I" ∈ TB := tb_of (i := 198) rfl rfl
set_option maxRecDepth 100000 in
theorem tw_169 : Cond.fieldLink "OutletOffice$Car" 26 "OutletOffice$Car" "fullSince" "I" ∈ TB := tb_of (i := 199) rfl rfl
set_option maxRecDepth 100000 in
theorem tw_17 : Cond.initialized "java/lang/System" ∈ TB := tb_of (i := 47) rfl rfl
set_option maxRecDepth 100000 in
theorem tw_18 : Cond.initialized "java/lang/Math" ∈ TB := tb_of (i := 48) rfl rfl
set_option maxRecDepth 100000 in
theorem tw_183 : Cond.classLink "OutletOffice$Point" 18 "OutletOffice$Queue" ∈ TB := tb_of (i := 213) rfl rfl
set_option maxRecDepth 100000 in
theorem tw_184 : Cond.instantiable "OutletOffice$Queue" 5 ∈ TB := tb_of (i := 214) rfl rfl
set_option maxRecDepth 100000 in
theorem tw_185 : Cond.methodLink "OutletOffice$Point" 20 ⟨"OutletOffice$Queue", "<init>", "()V"⟩ ∈ TB := tb_of (i := 215) rfl rfl
set_option maxRecDepth 100000 in
theorem tw_186 : Cond.instanceMethod ⟨"OutletOffice$Queue", "<init>", "()V"⟩ ∈ TB := tb_of (i := 216) rfl rfl
set_option maxRecDepth 100000 in
theorem tw_187 : Cond.code yy_Queue_init bb_Queue_init 2 (none : Option Jvm.ClassFile.FieldType) ∈ TB := tb_of (i := 217) rfl rfl
set_option maxRecDepth 100000 in
theorem tw_188 : Cond.methodLink "OutletOffice$Queue" 3 ⟨"java/lang/Object", "<init>", "()V"⟩ ∈ TB := tb_of (i := 218) rfl rfl
set_option maxRecDepth 100000 in
theorem tw_189 : Cond.classLink "OutletOffice$Queue" 9 "OutletOffice$Message" ∈ TB := tb_of (i := 219) rfl rfl
set_option maxRecDepth 100000 in
theorem tw_191 : Cond.instantiable "OutletOffice$Message" 6 ∈ TB := tb_of (i := 221) rfl rfl
set_option maxRecDepth 100000 in
theorem tw_193 : Cond.instanceMethod ⟨"OutletOffice$Message", "<init>", "()V"⟩ ∈ TB := tb_of (i := 223) rfl rfl
set_option maxRecDepth 100000 in
theorem tw_194 : Cond.code yy_Msg_init bb_Msg_init 1 (none : Option Jvm.ClassFile.FieldType) ∈ TB := tb_of (i := 224) rfl rfl
set_option maxRecDepth 100000 in
theorem tw_195 : Cond.methodLink "OutletOffice$Message" 3 ⟨"java/lang/Object", "<init>", "()V"⟩ ∈ TB := tb_of (i := 225) rfl rfl
set_option maxRecDepth 100000 in
theorem tw_196 : Cond.fieldLink "OutletOffice$Message" 9 "OutletOffice$Message" "kind" "I" ∈ TB := tb_of (i := 226) rfl rfl
set_option maxRecDepth 100000 in
theorem tw_197 : Cond.fieldLink "OutletOffice$Office" 47 "OutletOffice$Message" "kind" "I" ∈ TB := tb_of (i := 227) rfl rfl
set_option maxRecDepth 100000 in
theorem tw_198 : Cond.fieldLink "OutletOffice$Message" 15 "OutletOffice$Message" "session" "I" ∈ TB := tb_of (i := 228) rfl rfl
set_option maxRecDepth 100000 in
theorem tw_199 : Cond.fieldLink "OutletOffice$Bill" 35 "OutletOffice$Message" "session" "I" ∈ TB := tb_of (i := 229) rfl rfl
set_option maxRecDepth 100000 in
theorem tw_2 : Cond.initialized "OutletOffice$Office" ∈ TB := tb_of (i := 32) rfl rfl
set_option maxRecDepth 100000 in
theorem tw_200 : Cond.fieldLink "OutletOffice$Message" 18 "OutletOffice$Message" "card" "I" ∈ TB := tb_of (i := 230) rfl rfl
set_option maxRecDepth 100000 in
theorem tw_201 : Cond.fieldLink "OutletOffice$Bill" 38 "OutletOffice$Message" "card" "I" ∈ TB := tb_of (i := 231) rfl rfl
set_option maxRecDepth 100000 in
theorem tw_202 : Cond.fieldLink "OutletOffice$Message" 21 "OutletOffice$Message" "time" "I" ∈ TB := tb_of (i := 232) rfl rfl
set_option maxRecDepth 100000 in
theorem tw_203 : Cond.fieldLink "OutletOffice$Bill" 40 "OutletOffice$Message" "time" "I" ∈ TB := tb_of (i := 233) rfl rfl
set_option maxRecDepth 100000 in
theorem tw_204 : Cond.fieldLink "OutletOffice$Message" 24 "OutletOffice$Message" "wattHours" "I" ∈ TB := tb_of (i := 234) rfl rfl
set_option maxRecDepth 100000 in
theorem tw_205 : Cond.fieldLink "OutletOffice$Bill" 39 "OutletOffice$Message" "wattHours" "I" ∈ TB := tb_of (i := 235) rfl rfl
set_option maxRecDepth 100000 in
theorem tw_206 : Cond.fieldLink "OutletOffice$Message" 27 "OutletOffice$Message" "idle" "I" ∈ TB := tb_of (i := 236) rfl rfl
set_option maxRecDepth 100000 in
theorem tw_207 : Cond.fieldLink "OutletOffice$Office" 73 "OutletOffice$Message" "idle" "I" ∈ TB := tb_of (i := 237) rfl rfl
set_option maxRecDepth 100000 in
theorem tw_221 : Cond.fieldLink "OutletOffice$Queue" 11 "OutletOffice$Queue" "rows" "[LOutletOffice$Message;" ∈ TB := tb_of (i := 251) rfl rfl
set_option maxRecDepth 100000 in
theorem tw_222 : Cond.fieldLink "OutletOffice$Queue" 17 "OutletOffice$Queue" "head" "I" ∈ TB := tb_of (i := 252) rfl rfl
set_option maxRecDepth 100000 in
theorem tw_223 : Cond.fieldLink "OutletOffice$Queue" 21 "OutletOffice$Queue" "nextNumber" "I" ∈ TB := tb_of (i := 253) rfl rfl
set_option maxRecDepth 100000 in
theorem tw_224 : Cond.fieldLink "OutletOffice$Queue" 24 "OutletOffice$Queue" "size" "I" ∈ TB := tb_of (i := 254) rfl rfl
set_option maxRecDepth 100000 in
theorem tw_225 : Cond.fieldLink "OutletOffice$Point" 84 "OutletOffice$Queue" "size" "I" ∈ TB := tb_of (i := 255) rfl rfl
set_option maxRecDepth 100000 in
theorem tw_226 : Cond.fieldLink "OutletOffice" 186 "OutletOffice$Queue" "size" "I" ∈ TB := tb_of (i := 256) rfl rfl
set_option maxRecDepth 100000 in
theorem tw_227 : Cond.fieldLink "OutletOffice$Queue" 27 "OutletOffice$Queue" "sentAt" "I" ∈ TB := tb_of (i := 257) rfl rfl
set_option maxRecDepth 100000 in
theorem tw_228 : Cond.fieldLink "OutletOffice$Point" 123 "OutletOffice$Queue" "sentAt" "I" ∈ TB := tb_of (i := 258) rfl rfl
set_option maxRecDepth 100000 in
theorem tw_24 : Cond.methodLink "OutletOffice" 3 ⟨"java/lang/Object", "<init>", "()V"⟩ ∈ TB := tb_of (i := 54) rfl rfl
set_option maxRecDepth 100000 in
theorem tw_240 : Cond.classLink "OutletOffice$Point" 25 "OutletOffice$CardList" ∈ TB := tb_of (i := 270) rfl rfl
set_option maxRecDepth 100000 in
theorem tw_242 : Cond.fieldLink "OutletOffice$Point" 12 "OutletOffice$Point" "car" "LOutletOffice$Car;" ∈ TB := tb_of (i := 272) rfl rfl
set_option maxRecDepth 100000 in
theorem tw_243 : Cond.fieldLink "OutletOffice$Site" 37 "OutletOffice$Point" "car" "LOutletOffice$Car;" ∈ TB := tb_of (i := 273) rfl rfl
set_option maxRecDepth 100000 in
theorem tw_244 : Cond.fieldLink "OutletOffice" 79 "OutletOffice$Point" "car" "LOutletOffice$Car;" ∈ TB := tb_of (i := 274) rfl rfl
set_option maxRecDepth 100000 in
theorem tw_245 : Cond.fieldLink "OutletOffice$Point" 21 "OutletOffice$Point" "queue" "LOutletOffice$Queue;" ∈ TB := tb_of (i := 275) rfl rfl
set_option maxRecDepth 100000 in
theorem tw_246 : Cond.fieldLink "OutletOffice" 142 "OutletOffice$Point" "queue" "LOutletOffice$Queue;" ∈ TB := tb_of (i := 276) rfl rfl
set_option maxRecDepth 100000 in
theorem tw_247 : Cond.fieldLink "OutletOffice$Point" 28 "OutletOffice$Point" "cards" "LOutletOffice$CardList;" ∈ TB := tb_of (i := 277) rfl rfl
set_option maxRecDepth 100000 in
theorem tw_248 : Cond.fieldLink "OutletOffice" 74 "OutletOffice$Point" "cards" "LOutletOffice$CardList;" ∈ TB := tb_of (i := 278) rfl rfl
set_option maxRecDepth 100000 in
theorem tw_249 : Cond.fieldLink "OutletOffice$Point" 32 "OutletOffice$Point" "power" "Z" ∈ TB := tb_of (i := 279) rfl rfl
set_option maxRecDepth 100000 in
theorem tw_25 : Cond.instanceMethod ⟨"java/lang/Object", "<init>", "()V"⟩ ∈ TB := tb_of (i := 55) rfl rfl
set_option maxRecDepth 100000 in
theorem tw_250 : Cond.fieldLink "OutletOffice$Point" 36 "OutletOffice$Point" "line" "Z" ∈ TB := tb_of (i := 280) rfl rfl
set_option maxRecDepth 100000 in
theorem tw_251 : Cond.fieldLink "OutletOffice$Site" 29 "OutletOffice$Point" "line" "Z" ∈ TB := tb_of (i := 281) rfl rfl
set_option maxRecDepth 100000 in
theorem tw_252 : Cond.fieldLink "OutletOffice" 111 "OutletOffice$Point" "line" "Z" ∈ TB := tb_of (i := 282) rfl rfl
set_option maxRecDepth 100000 in
theorem tw_253 : Cond.fieldLink "OutletOffice$Point" 39 "OutletOffice$Point" "wattSeconds" "J" ∈ TB := tb_of (i := 283) rfl rfl
set_option maxRecDepth 100000 in
theorem tw_254 : Cond.fieldLink "OutletOffice" 182 "OutletOffice$Point" "wattSeconds" "J" ∈ TB := tb_of (i := 284) rfl rfl
set_option maxRecDepth 100000 in
theorem tw_255 : Cond.fieldLink "OutletOffice$Point" 43 "OutletOffice$Point" "session" "I" ∈ TB := tb_of (i := 285) rfl rfl
set_option maxRecDepth 100000 in
theorem tw_256 : Cond.fieldLink "OutletOffice" 189 "OutletOffice$Point" "session" "I" ∈ TB := tb_of (i := 286) rfl rfl
set_option maxRecDepth 100000 in
theorem tw_257 : Cond.fieldLink "OutletOffice$Point" 47 "OutletOffice$Point" "sessionCard" "I" ∈ TB := tb_of (i := 287) rfl rfl
set_option maxRecDepth 100000 in
theorem tw_258 : Cond.fieldLink "OutletOffice" 124 "OutletOffice$Point" "sessionCard" "I" ∈ TB := tb_of (i := 288) rfl rfl
set_option maxRecDepth 100000 in
theorem tw_259 : Cond.fieldLink "OutletOffice$Point" 50 "OutletOffice$Point" "lastSession" "I" ∈ TB := tb_of (i := 289) rfl rfl
set_option maxRecDepth 100000 in
theorem tw_26 : Cond.code ⟨"java/lang/Object", "<init>", "()V"⟩ object_method_1_code 1 (none : Option Jvm.ClassFile.FieldType) ∈ TB := tb_of (i := 56) rfl rfl
set_option maxRecDepth 100000 in
theorem tw_260 : Cond.fieldLink "OutletOffice$Point" 53 "OutletOffice$Point" "underWay" "I" ∈ TB := tb_of (i := 290) rfl rfl
set_option maxRecDepth 100000 in
theorem tw_261 : Cond.fieldLink "OutletOffice" 139 "OutletOffice$Point" "underWay" "I" ∈ TB := tb_of (i := 291) rfl rfl
set_option maxRecDepth 100000 in
theorem tw_262 : Cond.fieldLink "OutletOffice$Point" 56 "OutletOffice$Point" "chosen" "Z" ∈ TB := tb_of (i := 292) rfl rfl
set_option maxRecDepth 100000 in
theorem tw_263 : Cond.fieldLink "OutletOffice$Site" 60 "OutletOffice$Point" "chosen" "Z" ∈ TB := tb_of (i := 293) rfl rfl
set_option maxRecDepth 100000 in
theorem tw_264 : Cond.fieldLink "OutletOffice$Point" 59 "OutletOffice$Point" "takes" "I" ∈ TB := tb_of (i := 294) rfl rfl
set_option maxRecDepth 100000 in
theorem tw_265 : Cond.fieldLink "OutletOffice$Site" 26 "OutletOffice$Point" "takes" "I" ∈ TB := tb_of (i := 295) rfl rfl
set_option maxRecDepth 100000 in
theorem tw_266 : Cond.fieldLink "OutletOffice" 175 "OutletOffice$Point" "takes" "I" ∈ TB := tb_of (i := 296) rfl rfl
set_option maxRecDepth 100000 in
theorem tw_27 : Cond.classLink "OutletOffice" 9 "OutletOffice$Site" ∈ TB := tb_of (i := 57) rfl rfl
set_option maxRecDepth 100000 in
theorem tw_29 : Cond.classLink "OutletOffice" 15 "OutletOffice$Office" ∈ TB := tb_of (i := 59) rfl rfl
set_option maxRecDepth 100000 in
theorem tw_292 : Cond.fieldLink "OutletOffice$Site" 11 "OutletOffice$Site" "points" "[LOutletOffice$Point;" ∈ TB := tb_of (i := 322) rfl rfl
set_option maxRecDepth 100000 in
theorem tw_293 : Cond.fieldLink "OutletOffice" 178 "OutletOffice$Site" "points" "[LOutletOffice$Point;" ∈ TB := tb_of (i := 323) rfl rfl
set_option maxRecDepth 100000 in
theorem tw_294 : Cond.fieldLink "OutletOffice$Site" 17 "OutletOffice$Site" "limit" "I" ∈ TB := tb_of (i := 324) rfl rfl
set_option maxRecDepth 100000 in
theorem tw_295 : Cond.fieldLink "OutletOffice" 35 "OutletOffice$Site" "limit" "I" ∈ TB := tb_of (i := 325) rfl rfl
set_option maxRecDepth 100000 in
theorem tw_3 : Cond.initialized "OutletOffice$CardList" ∈ TB := tb_of (i := 33) rfl rfl
set_option maxRecDepth 100000 in
theorem tw_30 : Cond.instantiable "OutletOffice$Office" 7 ∈ TB := tb_of (i := 60) rfl rfl
set_option maxRecDepth 100000 in
theorem tw_301 : Cond.fieldLink "OutletOffice" 11 "OutletOffice" "sites" "[LOutletOffice$Site;" ∈ TB := tb_of (i := 331) rfl rfl
set_option maxRecDepth 100000 in
theorem tw_302 : Cond.fieldLink "OutletOffice" 18 "OutletOffice" "office" "LOutletOffice$Office;" ∈ TB := tb_of (i := 332) rfl rfl
set_option maxRecDepth 100000 in
theorem tw_303 : Cond.fieldLink "OutletOffice" 22 "OutletOffice" "now" "I" ∈ TB := tb_of (i := 333) rfl rfl
set_option maxRecDepth 100000 in
theorem tw_31 : Cond.methodLink "OutletOffice" 17 ⟨"OutletOffice$Office", "<init>", "()V"⟩ ∈ TB := tb_of (i := 61) rfl rfl
set_option maxRecDepth 100000 in
theorem tw_311 : Cond.methodLink "OutletOfficeLaw" 143 ⟨"OutletOffice", "time", "()I"⟩ ∈ TB := tb_of (i := 341) rfl rfl
set_option maxRecDepth 100000 in
theorem tw_312 : Cond.instanceMethod ⟨"OutletOffice", "time", "()I"⟩ ∈ TB := tb_of (i := 342) rfl rfl
set_option maxRecDepth 100000 in
theorem tw_313 : Cond.selects "OutletOffice" ⟨"OutletOffice", "time", "()I"⟩ ⟨"OutletOffice", "time", "()I"⟩ ∈ TB := tb_of (i := 343) rfl rfl
set_option maxRecDepth 100000 in
theorem tw_314 : Cond.code yy_Out_time bb_Out_time 1 (some .int) ∈ TB := tb_of (i := 344) rfl rfl
set_option maxRecDepth 100000 in
theorem tw_315 : Cond.methodLink "OutletOfficeLaw" 162 ⟨"OutletOffice", "bills", "()I"⟩ ∈ TB := tb_of (i := 345) rfl rfl
set_option maxRecDepth 100000 in
theorem tw_316 : Cond.instanceMethod ⟨"OutletOffice", "bills", "()I"⟩ ∈ TB := tb_of (i := 346) rfl rfl
set_option maxRecDepth 100000 in
theorem tw_317 : Cond.selects "OutletOffice" ⟨"OutletOffice", "bills", "()I"⟩ ⟨"OutletOffice", "bills", "()I"⟩ ∈ TB := tb_of (i := 347) rfl rfl
set_option maxRecDepth 100000 in
theorem tw_318 : Cond.code yy_Out_bills bb_Out_bills 1 (some .int) ∈ TB := tb_of (i := 348) rfl rfl
set_option maxRecDepth 100000 in
theorem tw_319 : Cond.methodLink "OutletOfficeLaw" 89 ⟨"OutletOfficeLaw", "limit", "(LOutletOffice;II)I"⟩ ∈ TB := tb_of (i := 349) rfl rfl
set_option maxRecDepth 100000 in
theorem tw_32 : Cond.instanceMethod ⟨"OutletOffice$Office", "<init>", "()V"⟩ ∈ TB := tb_of (i := 62) rfl rfl
set_option maxRecDepth 100000 in
theorem tw_320 : Cond.static ⟨"OutletOfficeLaw", "limit", "(LOutletOffice;II)I"⟩ ∈ TB := tb_of (i := 350) rfl rfl
set_option maxRecDepth 100000 in
theorem tw_321 : Cond.codeWith yy_Law_limit bb_Law_limit 4 (some .int) [((0 : Nat), (6 : Nat), (9 : Nat), (13 : Nat)), ((0 : Nat), (6 : Nat), (12 : Nat), (15 : Nat))] ∈ TB := tb_of (i := 351) rfl rfl
set_option maxRecDepth 100000 in
theorem tw_322 : Cond.classLink "OutletOfficeLaw" 13 "java/lang/IndexOutOfBoundsException" ∈ TB := tb_of (i := 352) rfl rfl
set_option maxRecDepth 100000 in
theorem tw_323 : Cond.classLink "OutletOfficeLaw" 15 "java/lang/IllegalArgumentException" ∈ TB := tb_of (i := 353) rfl rfl
set_option maxRecDepth 100000 in
theorem tw_324 : Cond.methodLink "OutletOfficeLaw" 7 ⟨"OutletOffice", "limit", "(II)V"⟩ ∈ TB := tb_of (i := 354) rfl rfl
set_option maxRecDepth 100000 in
theorem tw_325 : Cond.instanceMethod ⟨"OutletOffice", "limit", "(II)V"⟩ ∈ TB := tb_of (i := 355) rfl rfl
set_option maxRecDepth 100000 in
theorem tw_326 : Cond.selects "OutletOffice" ⟨"OutletOffice", "limit", "(II)V"⟩ ⟨"OutletOffice", "limit", "(II)V"⟩ ∈ TB := tb_of (i := 356) rfl rfl
set_option maxRecDepth 100000 in
theorem tw_327 : Cond.code yy_Out_limit bb_Out_limit 3 (none : Option Jvm.ClassFile.FieldType) ∈ TB := tb_of (i := 357) rfl rfl
set_option maxRecDepth 100000 in
theorem tw_328 : Cond.methodLink "OutletOffice" 27 ⟨"OutletOffice", "checkIndex", "(II)V"⟩ ∈ TB := tb_of (i := 358) rfl rfl
set_option maxRecDepth 100000 in
theorem tw_329 : Cond.static ⟨"OutletOffice", "checkIndex", "(II)V"⟩ ∈ TB := tb_of (i := 359) rfl rfl
set_option maxRecDepth 100000 in
theorem tw_33 : Cond.code yy_Office_init bb_Office_init 2 (none : Option Jvm.ClassFile.FieldType) ∈ TB := tb_of (i := 63) rfl rfl
set_option maxRecDepth 100000 in
theorem tw_330 : Cond.code yy_Out_checkIndex bb_Out_checkIndex 2 (none : Option Jvm.ClassFile.FieldType) ∈ TB := tb_of (i := 360) rfl rfl
set_option maxRecDepth 100000 in
theorem tw_331 : Cond.classLink "OutletOffice" 226 "java/lang/IndexOutOfBoundsException" ∈ TB := tb_of (i := 361) rfl rfl
set_option maxRecDepth 100000 in
theorem tw_34 : Cond.methodLink "OutletOffice$Office" 3 ⟨"java/lang/Object", "<init>", "()V"⟩ ∈ TB := tb_of (i := 64) rfl rfl
set_option maxRecDepth 100000 in
theorem tw_35 : Cond.classLink "OutletOffice$Office" 9 "OutletOffice$CardList" ∈ TB := tb_of (i := 65) rfl rfl
set_option maxRecDepth 100000 in
theorem tw_36 : Cond.instantiable "OutletOffice$CardList" 2 ∈ TB := tb_of (i := 66) rfl rfl
set_option maxRecDepth 100000 in
theorem tw_38 : Cond.instanceMethod ⟨"OutletOffice$CardList", "<init>", "()V"⟩ ∈ TB := tb_of (i := 68) rfl rfl
set_option maxRecDepth 100000 in
theorem tw_39 : Cond.code yy_Cards_init bb_Cards_init 1 (none : Option Jvm.ClassFile.FieldType) ∈ TB := tb_of (i := 69) rfl rfl
set_option maxRecDepth 100000 in
theorem tw_398 : Cond.methodLink "OutletOffice" 31 ⟨"OutletOffice", "checkNumber", "(III)V"⟩ ∈ TB := tb_of (i := 428) rfl rfl
set_option maxRecDepth 100000 in
theorem tw_399 : Cond.static ⟨"OutletOffice", "checkNumber", "(III)V"⟩ ∈ TB := tb_of (i := 429) rfl rfl
set_option maxRecDepth 100000 in
theorem tw_4 : Cond.initialized "OutletOffice$Tariff" ∈ TB := tb_of (i := 34) rfl rfl
set_option maxRecDepth 100000 in
theorem tw_40 : Cond.methodLink "OutletOffice$CardList" 3 ⟨"java/lang/Object", "<init>", "()V"⟩ ∈ TB := tb_of (i := 70) rfl rfl
set_option maxRecDepth 100000 in
theorem tw_400 : Cond.code yy_Out_checkNumber bb_Out_checkNumber 3 (none : Option Jvm.ClassFile.FieldType) ∈ TB := tb_of (i := 430) rfl rfl
set_option maxRecDepth 100000 in
theorem tw_401 : Cond.classLink "OutletOffice" 233 "java/lang/IllegalArgumentException" ∈ TB := tb_of (i := 431) rfl rfl
set_option maxRecDepth 100000 in
theorem tw_41 : Cond.fieldLink "OutletOffice$CardList" 9 "OutletOffice$CardList" "status" "[I" ∈ TB := tb_of (i := 71) rfl rfl
set_option maxRecDepth 100000 in
theorem tw_417 : Cond.methodLink "OutletOfficeLaw" 99 ⟨"OutletOfficeLaw", "band", "(LOutletOffice;III)I"⟩ ∈ TB := tb_of (i := 447) rfl rfl
set_option maxRecDepth 100000 in
theorem tw_418 : Cond.static ⟨"OutletOfficeLaw", "band", "(LOutletOffice;III)I"⟩ ∈ TB := tb_of (i := 448) rfl rfl
set_option maxRecDepth 100000 in
theorem tw_419 : Cond.codeWith yy_Law_band bb_Law_band 5 (some .int) [((0 : Nat), (7 : Nat), (10 : Nat), (13 : Nat)), ((0 : Nat), (7 : Nat), (14 : Nat), (15 : Nat))] ∈ TB := tb_of (i := 449) rfl rfl
set_option maxRecDepth 100000 in
theorem tw_42 : Cond.fieldLink "OutletOffice$CardList" 15 "OutletOffice$CardList" "group" "[I" ∈ TB := tb_of (i := 72) rfl rfl
set_option maxRecDepth 100000 in
theorem tw_420 : Cond.methodLink "OutletOfficeLaw" 17 ⟨"OutletOffice", "band", "(III)V"⟩ ∈ TB := tb_of (i := 450) rfl rfl
set_option maxRecDepth 100000 in
theorem tw_421 : Cond.instanceMethod ⟨"OutletOffice", "band", "(III)V"⟩ ∈ TB := tb_of (i := 451) rfl rfl
set_option maxRecDepth 100000 in
theorem tw_422 : Cond.selects "OutletOffice" ⟨"OutletOffice", "band", "(III)V"⟩ ⟨"OutletOffice", "band", "(III)V"⟩ ∈ TB := tb_of (i := 452) rfl rfl
set_option maxRecDepth 100000 in
theorem tw_423 : Cond.code yy_Out_band bb_Out_band 4 (none : Option Jvm.ClassFile.FieldType) ∈ TB := tb_of (i := 453) rfl rfl
set_option maxRecDepth 100000 in
theorem tw_424 : Cond.constant "OutletOffice" 38 100000 ∈ TB := tb_of (i := 454) rfl rfl
set_option maxRecDepth 100000 in
theorem tw_425 : Cond.methodLink "OutletOffice" 43 ⟨"OutletOffice$Tariff", "setBand", "(III)V"⟩ ∈ TB := tb_of (i := 455) rfl rfl
set_option maxRecDepth 100000 in
theorem tw_426 : Cond.instanceMethod ⟨"OutletOffice$Tariff", "setBand", "(III)V"⟩ ∈ TB := tb_of (i := 456) rfl rfl
set_option maxRecDepth 100000 in
theorem tw_427 : Cond.selects "OutletOffice$Tariff" ⟨"OutletOffice$Tariff", "setBand", "(III)V"⟩ ⟨"OutletOffice$Tariff", "setBand", "(III)V"⟩ ∈ TB := tb_of (i := 457) rfl rfl
set_option maxRecDepth 100000 in
theorem tw_428 : Cond.code yy_Tariff_setBand bb_Tariff_setBand 4 (none : Option Jvm.ClassFile.FieldType) ∈ TB := tb_of (i := 458) rfl rfl
set_option maxRecDepth 100000 in
theorem tw_429 : Cond.methodLink "OutletOfficeLaw" 103 ⟨"OutletOfficeLaw", "fees", "(LOutletOffice;II)I"⟩ ∈ TB := tb_of (i := 459) rfl rfl
set_option maxRecDepth 100000 in
theorem tw_430 : Cond.static ⟨"OutletOfficeLaw", "fees", "(LOutletOffice;II)I"⟩ ∈ TB := tb_of (i := 460) rfl rfl
set_option maxRecDepth 100000 in
theorem tw_431 : Cond.codeWith yy_Law_fees bb_Law_fees 4 (some .int) [((0 : Nat), (6 : Nat), (9 : Nat), (15 : Nat))] ∈ TB := tb_of (i := 461) rfl rfl
set_option maxRecDepth 100000 in
theorem tw_432 : Cond.methodLink "OutletOfficeLaw" 21 ⟨"OutletOffice", "fees", "(II)V"⟩ ∈ TB := tb_of (i := 462) rfl rfl
set_option maxRecDepth 100000 in
theorem tw_433 : Cond.instanceMethod ⟨"OutletOffice", "fees", "(II)V"⟩ ∈ TB := tb_of (i := 463) rfl rfl
set_option maxRecDepth 100000 in
theorem tw_434 : Cond.selects "OutletOffice" ⟨"OutletOffice", "fees", "(II)V"⟩ ⟨"OutletOffice", "fees", "(II)V"⟩ ∈ TB := tb_of (i := 464) rfl rfl
set_option maxRecDepth 100000 in
theorem tw_435 : Cond.code yy_Out_fees bb_Out_fees 3 (none : Option Jvm.ClassFile.FieldType) ∈ TB := tb_of (i := 465) rfl rfl
set_option maxRecDepth 100000 in
theorem tw_436 : Cond.constant "OutletOffice" 48 1000000 ∈ TB := tb_of (i := 466) rfl rfl
set_option maxRecDepth 100000 in
theorem tw_437 : Cond.methodLink "OutletOfficeLaw" 106 ⟨"OutletOfficeLaw", "card", "(LOutletOffice;III)I"⟩ ∈ TB := tb_of (i := 467) rfl rfl
set_option maxRecDepth 100000 in
theorem tw_438 : Cond.static ⟨"OutletOfficeLaw", "card", "(LOutletOffice;III)I"⟩ ∈ TB := tb_of (i := 468) rfl rfl
set_option maxRecDepth 100000 in
theorem tw_439 : Cond.codeWith yy_Law_card bb_Law_card 5 (some .int) [((0 : Nat), (7 : Nat), (10 : Nat), (13 : Nat)), ((0 : Nat), (7 : Nat), (14 : Nat), (15 : Nat))] ∈ TB := tb_of (i := 469) rfl rfl
set_option maxRecDepth 100000 in
theorem tw_440 : Cond.methodLink "OutletOfficeLaw" 24 ⟨"OutletOffice", "card", "(III)V"⟩ ∈ TB := tb_of (i := 470) rfl rfl
set_option maxRecDepth 100000 in
theorem tw_441 : Cond.instanceMethod ⟨"OutletOffice", "card", "(III)V"⟩ ∈ TB := tb_of (i := 471) rfl rfl
set_option maxRecDepth 100000 in
theorem tw_442 : Cond.selects "OutletOffice" ⟨"OutletOffice", "card", "(III)V"⟩ ⟨"OutletOffice", "card", "(III)V"⟩ ∈ TB := tb_of (i := 472) rfl rfl
set_option maxRecDepth 100000 in
theorem tw_443 : Cond.code yy_Out_card bb_Out_card 4 (none : Option Jvm.ClassFile.FieldType) ∈ TB := tb_of (i := 473) rfl rfl
set_option maxRecDepth 100000 in
theorem tw_444 : Cond.methodLink "OutletOffice" 59 ⟨"OutletOffice$CardList", "setCard", "(III)V"⟩ ∈ TB := tb_of (i := 474) rfl rfl
set_option maxRecDepth 100000 in
theorem tw_445 : Cond.instanceMethod ⟨"OutletOffice$CardList", "setCard", "(III)V"⟩ ∈ TB := tb_of (i := 475) rfl rfl
set_option maxRecDepth 100000 in
theorem tw_446 : Cond.selects "OutletOffice$CardList" ⟨"OutletOffice$CardList", "setCard", "(III)V"⟩ ⟨"OutletOffice$CardList", "setCard", "(III)V"⟩ ∈ TB := tb_of (i := 476) rfl rfl
set_option maxRecDepth 100000 in
theorem tw_447 : Cond.code yy_Cards_setCard bb_Cards_setCard 4 (none : Option Jvm.ClassFile.FieldType) ∈ TB := tb_of (i := 477) rfl rfl
set_option maxRecDepth 100000 in
theorem tw_448 : Cond.methodLink "OutletOfficeLaw" 109 ⟨"OutletOfficeLaw", "copy", "(LOutletOffice;I[J)I"⟩ ∈ TB := tb_of (i := 478) rfl rfl
set_option maxRecDepth 100000 in
theorem tw_449 : Cond.static ⟨"OutletOfficeLaw", "copy", "(LOutletOffice;I[J)I"⟩ ∈ TB := tb_of (i := 479) rfl rfl
set_option maxRecDepth 100000 in
theorem tw_450 : Cond.codeWith yy_Law_copy bb_Law_copy 4 (some .int) [((0 : Nat), (16 : Nat), (19 : Nat), (13 : Nat))] ∈ TB := tb_of (i := 480) rfl rfl
set_option maxRecDepth 100000 in
theorem tw_451 : Cond.methodLink "OutletOfficeLaw" 27 ⟨"OutletOffice", "copy", "(I)Z"⟩ ∈ TB := tb_of (i := 481) rfl rfl
set_option maxRecDepth 100000 in
theorem tw_452 : Cond.instanceMethod ⟨"OutletOffice", "copy", "(I)Z"⟩ ∈ TB := tb_of (i := 482) rfl rfl
set_option maxRecDepth 100000 in
theorem tw_453 : Cond.selects "OutletOffice" ⟨"OutletOffice", "copy", "(I)Z"⟩ ⟨"OutletOffice", "copy", "(I)Z"⟩ ∈ TB := tb_of (i := 483) rfl rfl
set_option maxRecDepth 100000 in
theorem tw_454 : Cond.code yy_Out_copy bb_Out_copy 3 (some .boolean) ∈ TB := tb_of (i := 484) rfl rfl
set_option maxRecDepth 100000 in
theorem tw_455 : Cond.methodLink "OutletOffice" 64 ⟨"OutletOffice", "pointAt", "(I)LOutletOffice$Point;"⟩ ∈ TB := tb_of (i := 485) rfl rfl
set_option maxRecDepth 100000 in
theorem tw_457 : Cond.instanceMethod ⟨"OutletOffice", "pointAt", "(I)LOutletOffice$Point;"⟩ ∈ TB := tb_of (i := 487) rfl rfl
set_option maxRecDepth 100000 in
theorem tw_458 : Cond.code yy_Out_pointAt bb_Out_pointAt 2 (some (.object "OutletOffice$Point")) ∈ TB := tb_of (i := 488) rfl rfl
set_option maxRecDepth 100000 in
theorem tw_459 : Cond.methodLink "OutletOffice" 68 ⟨"OutletOffice$Point", "isReachable", "()Z"⟩ ∈ TB := tb_of (i := 489) rfl rfl
set_option maxRecDepth 100000 in
theorem tw_460 : Cond.instanceMethod ⟨"OutletOffice$Point", "isReachable", "()Z"⟩ ∈ TB := tb_of (i := 490) rfl rfl
set_option maxRecDepth 100000 in
theorem tw_461 : Cond.selects "OutletOffice$Point" ⟨"OutletOffice$Point", "isReachable", "()Z"⟩ ⟨"OutletOffice$Point", "isReachable", "()Z"⟩ ∈ TB := tb_of (i := 491) rfl rfl
set_option maxRecDepth 100000 in
theorem tw_462 : Cond.code yy_Point_isReachable bb_Point_isReachable 1 (some .boolean) ∈ TB := tb_of (i := 492) rfl rfl
set_option maxRecDepth 100000 in
theorem tw_463 : Cond.methodLink "OutletOffice" 75 ⟨"OutletOffice$CardList", "takeOver", "(LOutletOffice$CardList;)V"⟩ ∈ TB := tb_of (i := 493) rfl rfl
set_option maxRecDepth 100000 in
theorem tw_464 : Cond.instanceMethod ⟨"OutletOffice$CardList", "takeOver", "(LOutletOffice$CardList;)V"⟩ ∈ TB := tb_of (i := 494) rfl rfl
set_option maxRecDepth 100000 in
theorem tw_465 : Cond.selects "OutletOffice$CardList" ⟨"OutletOffice$CardList", "takeOver", "(LOutletOffice$CardList;)V"⟩ ⟨"OutletOffice$CardList", "takeOver", "(LOutletOffice$CardList;)V"⟩ ∈ TB := tb_of (i := 495) rfl rfl
set_option maxRecDepth 100000 in
theorem tw_466 : Cond.code yy_Cards_takeOver bb_Cards_takeOver 2 (none : Option Jvm.ClassFile.FieldType) ∈ TB := tb_of (i := 496) rfl rfl
set_option maxRecDepth 100000 in
theorem tw_467 : Cond.methodLink "OutletOffice$CardList" 18 ⟨"java/lang/System", "arraycopy", "(Ljava/lang/Object;ILjava/lang/Object;II)V"⟩ ∈ TB := tb_of (i := 497) rfl rfl
set_option maxRecDepth 100000 in
theorem tw_468 : Cond.static ⟨"java/lang/System", "arraycopy", "(Ljava/lang/Object;ILjava/lang/Object;II)V"⟩ ∈ TB := tb_of (i := 498) rfl rfl
set_option maxRecDepth 100000 in
theorem tw_469 : Cond.native ⟨"java/lang/System", "arraycopy", "(Ljava/lang/Object;ILjava/lang/Object;II)V"⟩ ∈ TB := tb_of (i := 499) rfl rfl
set_option maxRecDepth 100000 in
theorem tw_470 : Cond.methodLink "OutletOfficeLaw" 113 ⟨"OutletOfficeLaw", "car", "(LOutletOffice;IIII[J)I"⟩ ∈ TB := tb_of (i := 500) rfl rfl
set_option maxRecDepth 100000 in
theorem tw_471 : Cond.static ⟨"OutletOfficeLaw", "car", "(LOutletOffice;IIII[J)I"⟩ ∈ TB := tb_of (i := 501) rfl rfl
set_option maxRecDepth 100000 in
theorem tw_472 : Cond.codeWith yy_Law_car bb_Law_car 7 (some .int) [((0 : Nat), (21 : Nat), (24 : Nat), (13 : Nat)), ((0 : Nat), (21 : Nat), (28 : Nat), (15 : Nat))] ∈ TB := tb_of (i := 502) rfl rfl
set_option maxRecDepth 100000 in
theorem tw_473 : Cond.methodLink "OutletOfficeLaw" 31 ⟨"OutletOffice", "car", "(IIII)Z"⟩ ∈ TB := tb_of (i := 503) rfl rfl
set_option maxRecDepth 100000 in
theorem tw_474 : Cond.instanceMethod ⟨"OutletOffice", "car", "(IIII)Z"⟩ ∈ TB := tb_of (i := 504) rfl rfl
set_option maxRecDepth 100000 in
theorem tw_475 : Cond.selects "OutletOffice" ⟨"OutletOffice", "car", "(IIII)Z"⟩ ⟨"OutletOffice", "car", "(IIII)Z"⟩ ∈ TB := tb_of (i := 505) rfl rfl
set_option maxRecDepth 100000 in
theorem tw_476 : Cond.code yy_Out_car bb_Out_car 6 (some .boolean) ∈ TB := tb_of (i := 506) rfl rfl
set_option maxRecDepth 100000 in
theorem tw_477 : Cond.methodLink "OutletOffice" 89 ⟨"OutletOffice$Car", "come", "(III)V"⟩ ∈ TB := tb_of (i := 507) rfl rfl
set_option maxRecDepth 100000 in
theorem tw_478 : Cond.instanceMethod ⟨"OutletOffice$Car", "come", "(III)V"⟩ ∈ TB := tb_of (i := 508) rfl rfl
set_option maxRecDepth 100000 in
theorem tw_479 : Cond.selects "OutletOffice$Car" ⟨"OutletOffice$Car", "come", "(III)V"⟩ ⟨"OutletOffice$Car", "come", "(III)V"⟩ ∈ TB := tb_of (i := 509) rfl rfl
set_option maxRecDepth 100000 in
theorem tw_48 : Cond.arrayClass .int ∈ TB := tb_of (i := 78) rfl rfl
set_option maxRecDepth 100000 in
theorem tw_480 : Cond.code yy_Car_come bb_Car_come 4 (none : Option Jvm.ClassFile.FieldType) ∈ TB := tb_of (i := 510) rfl rfl
set_option maxRecDepth 100000 in
theorem tw_481 : Cond.methodLink "OutletOfficeLaw" 117 ⟨"OutletOfficeLaw", "want", "(LOutletOffice;II[J)I"⟩ ∈ TB := tb_of (i := 511) rfl rfl
set_option maxRecDepth 100000 in
theorem tw_482 : Cond.static ⟨"OutletOfficeLaw", "want", "(LOutletOffice;II[J)I"⟩ ∈ TB := tb_of (i := 512) rfl rfl
set_option maxRecDepth 100000 in
theorem tw_483 : Cond.codeWith yy_Law_want bb_Law_want 5 (some .int) [((0 : Nat), (17 : Nat), (20 : Nat), (13 : Nat)), ((0 : Nat), (17 : Nat), (24 : Nat), (15 : Nat))] ∈ TB := tb_of (i := 513) rfl rfl
set_option maxRecDepth 100000 in
theorem tw_484 : Cond.methodLink "OutletOfficeLaw" 35 ⟨"OutletOffice", "want", "(II)Z"⟩ ∈ TB := tb_of (i := 514) rfl rfl
set_option maxRecDepth 100000 in
theorem tw_485 : Cond.instanceMethod ⟨"OutletOffice", "want", "(II)Z"⟩ ∈ TB := tb_of (i := 515) rfl rfl
set_option maxRecDepth 100000 in
theorem tw_486 : Cond.selects "OutletOffice" ⟨"OutletOffice", "want", "(II)Z"⟩ ⟨"OutletOffice", "want", "(II)Z"⟩ ∈ TB := tb_of (i := 516) rfl rfl
set_option maxRecDepth 100000 in
theorem tw_487 : Cond.code yy_Out_want bb_Out_want 4 (some .boolean) ∈ TB := tb_of (i := 517) rfl rfl
set_option maxRecDepth 100000 in
theorem tw_488 : Cond.methodLink "OutletOfficeLaw" 121 ⟨"OutletOfficeLaw", "leave", "(LOutletOffice;I[J)I"⟩ ∈ TB := tb_of (i := 518) rfl rfl
set_option maxRecDepth 100000 in
theorem tw_489 : Cond.static ⟨"OutletOfficeLaw", "leave", "(LOutletOffice;I[J)I"⟩ ∈ TB := tb_of (i := 519) rfl rfl
set_option maxRecDepth 100000 in
theorem tw_49 : Cond.classLink "OutletOffice$Office" 18 "OutletOffice$Tariff" ∈ TB := tb_of (i := 79) rfl rfl
set_option maxRecDepth 100000 in
theorem tw_490 : Cond.codeWith yy_Law_leave bb_Law_leave 4 (some .int) [((0 : Nat), (16 : Nat), (19 : Nat), (13 : Nat))] ∈ TB := tb_of (i := 520) rfl rfl
set_option maxRecDepth 100000 in
theorem tw_491 : Cond.methodLink "OutletOfficeLaw" 39 ⟨"OutletOffice", "leave", "(I)Z"⟩ ∈ TB := tb_of (i := 521) rfl rfl
set_option maxRecDepth 100000 in
theorem tw_492 : Cond.instanceMethod ⟨"OutletOffice", "leave", "(I)Z"⟩ ∈ TB := tb_of (i := 522) rfl rfl
set_option maxRecDepth 100000 in
theorem tw_493 : Cond.selects "OutletOffice" ⟨"OutletOffice", "leave", "(I)Z"⟩ ⟨"OutletOffice", "leave", "(I)Z"⟩ ∈ TB := tb_of (i := 523) rfl rfl
set_option maxRecDepth 100000 in
theorem tw_494 : Cond.code yy_Out_leave bb_Out_leave 3 (some .boolean) ∈ TB := tb_of (i := 524) rfl rfl
set_option maxRecDepth 100000 in
theorem tw_495 : Cond.methodLink "OutletOffice" 98 ⟨"OutletOffice$Point", "runs", "()Z"⟩ ∈ TB := tb_of (i := 525) rfl rfl
set_option maxRecDepth 100000 in
theorem tw_496 : Cond.instanceMethod ⟨"OutletOffice$Point", "runs", "()Z"⟩ ∈ TB := tb_of (i := 526) rfl rfl
set_option maxRecDepth 100000 in
theorem tw_497 : Cond.selects "OutletOffice$Point" ⟨"OutletOffice$Point", "runs", "()Z"⟩ ⟨"OutletOffice$Point", "runs", "()Z"⟩ ∈ TB := tb_of (i := 527) rfl rfl
set_option maxRecDepth 100000 in
theorem tw_498 : Cond.code yy_Point_runs bb_Point_runs 1 (some .boolean) ∈ TB := tb_of (i := 528) rfl rfl
set_option maxRecDepth 100000 in
theorem tw_499 : Cond.methodLink "OutletOffice" 101 ⟨"OutletOffice$Car", "idleSeconds", "(I)I"⟩ ∈ TB := tb_of (i := 529) rfl rfl
set_option maxRecDepth 100000 in
theorem tw_5 : Cond.initialized "OutletOffice$Bill" ∈ TB := tb_of (i := 35) rfl rfl
set_option maxRecDepth 100000 in
theorem tw_50 : Cond.instantiable "OutletOffice$Tariff" 4 ∈ TB := tb_of (i := 80) rfl rfl
set_option maxRecDepth 100000 in
theorem tw_500 : Cond.instanceMethod ⟨"OutletOffice$Car", "idleSeconds", "(I)I"⟩ ∈ TB := tb_of (i := 530) rfl rfl
set_option maxRecDepth 100000 in
theorem tw_501 : Cond.selects "OutletOffice$Car" ⟨"OutletOffice$Car", "idleSeconds", "(I)I"⟩ ⟨"OutletOffice$Car", "idleSeconds", "(I)I"⟩ ∈ TB := tb_of (i := 531) rfl rfl
set_option maxRecDepth 100000 in
theorem tw_502 : Cond.code yy_Car_idleSeconds bb_Car_idleSeconds 2 (some .int) ∈ TB := tb_of (i := 532) rfl rfl
set_option maxRecDepth 100000 in
theorem tw_503 : Cond.methodLink "OutletOffice" 105 ⟨"OutletOffice$Point", "end", "(II)V"⟩ ∈ TB := tb_of (i := 533) rfl rfl
set_option maxRecDepth 100000 in
theorem tw_504 : Cond.instanceMethod ⟨"OutletOffice$Point", "end", "(II)V"⟩ ∈ TB := tb_of (i := 534) rfl rfl
set_option maxRecDepth 100000 in
theorem tw_505 : Cond.selects "OutletOffice$Point" ⟨"OutletOffice$Point", "end", "(II)V"⟩ ⟨"OutletOffice$Point", "end", "(II)V"⟩ ∈ TB := tb_of (i := 535) rfl rfl
set_option maxRecDepth 100000 in
theorem tw_506 : Cond.code yy_Point_end bb_Point_end 3 (none : Option Jvm.ClassFile.FieldType) ∈ TB := tb_of (i := 536) rfl rfl
set_option maxRecDepth 100000 in
theorem tw_507 : Cond.methodLink "OutletOffice$Point" 87 ⟨"OutletOffice$Point", "tell", "(III)V"⟩ ∈ TB := tb_of (i := 537) rfl rfl
set_option maxRecDepth 100000 in
theorem tw_509 : Cond.instanceMethod ⟨"OutletOffice$Point", "tell", "(III)V"⟩ ∈ TB := tb_of (i := 539) rfl rfl
set_option maxRecDepth 100000 in
theorem tw_51 : Cond.methodLink "OutletOffice$Office" 20 ⟨"OutletOffice$Tariff", "<init>", "()V"⟩ ∈ TB := tb_of (i := 81) rfl rfl
set_option maxRecDepth 100000 in
theorem tw_510 : Cond.code yy_Point_tell bb_Point_tell 5 (none : Option Jvm.ClassFile.FieldType) ∈ TB := tb_of (i := 540) rfl rfl
set_option maxRecDepth 100000 in
theorem tw_511 : Cond.constantLong "OutletOffice$Point" 91 3600 ∈ TB := tb_of (i := 541) rfl rfl
set_option maxRecDepth 100000 in
theorem tw_512 : Cond.methodLink "OutletOffice$Point" 93 ⟨"OutletOffice$Queue", "put", "(IIIIII)V"⟩ ∈ TB := tb_of (i := 542) rfl rfl
set_option maxRecDepth 100000 in
theorem tw_513 : Cond.instanceMethod ⟨"OutletOffice$Queue", "put", "(IIIIII)V"⟩ ∈ TB := tb_of (i := 543) rfl rfl
set_option maxRecDepth 100000 in
theorem tw_514 : Cond.selects "OutletOffice$Queue" ⟨"OutletOffice$Queue", "put", "(IIIIII)V"⟩ ⟨"OutletOffice$Queue", "put", "(IIIIII)V"⟩ ∈ TB := tb_of (i := 544) rfl rfl
set_option maxRecDepth 100000 in
theorem tw_515 : Cond.code yy_Queue_put bb_Queue_put 7 (none : Option Jvm.ClassFile.FieldType) ∈ TB := tb_of (i := 545) rfl rfl
set_option maxRecDepth 100000 in
theorem tw_516 : Cond.methodLink "OutletOffice$Queue" 31 ⟨"OutletOffice$Message", "fill", "(IIIIII)V"⟩ ∈ TB := tb_of (i := 546) rfl rfl
set_option maxRecDepth 100000 in
theorem tw_517 : Cond.instanceMethod ⟨"OutletOffice$Message", "fill", "(IIIIII)V"⟩ ∈ TB := tb_of (i := 547) rfl rfl
set_option maxRecDepth 100000 in
theorem tw_518 : Cond.selects "OutletOffice$Message" ⟨"OutletOffice$Message", "fill", "(IIIIII)V"⟩ ⟨"OutletOffice$Message", "fill", "(IIIIII)V"⟩ ∈ TB := tb_of (i := 548) rfl rfl
set_option maxRecDepth 100000 in
theorem tw_519 : Cond.code yy_Msg_fill bb_Msg_fill 7 (none : Option Jvm.ClassFile.FieldType) ∈ TB := tb_of (i := 549) rfl rfl
set_option maxRecDepth 100000 in
theorem tw_52 : Cond.instanceMethod ⟨"OutletOffice$Tariff", "<init>", "()V"⟩ ∈ TB := tb_of (i := 82) rfl rfl
set_option maxRecDepth 100000 in
theorem tw_520 : Cond.methodLink "OutletOffice" 108 ⟨"OutletOffice$Car", "go", "()V"⟩ ∈ TB := tb_of (i := 550) rfl rfl
set_option maxRecDepth 100000 in
theorem tw_521 : Cond.instanceMethod ⟨"OutletOffice$Car", "go", "()V"⟩ ∈ TB := tb_of (i := 551) rfl rfl
set_option maxRecDepth 100000 in
theorem tw_522 : Cond.selects "OutletOffice$Car" ⟨"OutletOffice$Car", "go", "()V"⟩ ⟨"OutletOffice$Car", "go", "()V"⟩ ∈ TB := tb_of (i := 552) rfl rfl
set_option maxRecDepth 100000 in
theorem tw_523 : Cond.code yy_Car_go bb_Car_go 1 (none : Option Jvm.ClassFile.FieldType) ∈ TB := tb_of (i := 553) rfl rfl
set_option maxRecDepth 100000 in
theorem tw_524 : Cond.methodLink "OutletOfficeLaw" 124 ⟨"OutletOfficeLaw", "show", "(LOutletOffice;II[J)I"⟩ ∈ TB := tb_of (i := 554) rfl rfl
set_option maxRecDepth 100000 in
theorem tw_525 : Cond.static ⟨"OutletOfficeLaw", "show", "(LOutletOffice;II[J)I"⟩ ∈ TB := tb_of (i := 555) rfl rfl
set_option maxRecDepth 100000 in
theorem tw_526 : Cond.codeWith yy_Law_show bb_Law_show 5 (some .int) [((0 : Nat), (10 : Nat), (13 : Nat), (13 : Nat))] ∈ TB := tb_of (i := 556) rfl rfl
set_option maxRecDepth 100000 in
theorem tw_527 : Cond.methodLink "OutletOfficeLaw" 42 ⟨"OutletOffice", "show", "(II)I"⟩ ∈ TB := tb_of (i := 557) rfl rfl
set_option maxRecDepth 100000 in
theorem tw_528 : Cond.instanceMethod ⟨"OutletOffice", "show", "(II)I"⟩ ∈ TB := tb_of (i := 558) rfl rfl
set_option maxRecDepth 100000 in
theorem tw_529 : Cond.selects "OutletOffice" ⟨"OutletOffice", "show", "(II)I"⟩ ⟨"OutletOffice", "show", "(II)I"⟩ ∈ TB := tb_of (i := 559) rfl rfl
set_option maxRecDepth 100000 in
theorem tw_53 : Cond.code yy_Tariff_init bb_Tariff_init 2 (none : Option Jvm.ClassFile.FieldType) ∈ TB := tb_of (i := 83) rfl rfl
set_option maxRecDepth 100000 in
theorem tw_530 : Cond.code yy_Out_show bb_Out_show 5 (some .int) ∈ TB := tb_of (i := 560) rfl rfl
set_option maxRecDepth 100000 in
theorem tw_531 : Cond.methodLink "OutletOffice" 114 ⟨"OutletOffice$Point", "mayBegin", "()Z"⟩ ∈ TB := tb_of (i := 561) rfl rfl
set_option maxRecDepth 100000 in
theorem tw_532 : Cond.instanceMethod ⟨"OutletOffice$Point", "mayBegin", "()Z"⟩ ∈ TB := tb_of (i := 562) rfl rfl
set_option maxRecDepth 100000 in
theorem tw_533 : Cond.selects "OutletOffice$Point" ⟨"OutletOffice$Point", "mayBegin", "()Z"⟩ ⟨"OutletOffice$Point", "mayBegin", "()Z"⟩ ∈ TB := tb_of (i := 563) rfl rfl
set_option maxRecDepth 100000 in
theorem tw_534 : Cond.code yy_Point_mayBegin bb_Point_mayBegin 1 (some .boolean) ∈ TB := tb_of (i := 564) rfl rfl
set_option maxRecDepth 100000 in
theorem tw_535 : Cond.methodLink "OutletOffice" 117 ⟨"OutletOffice$CardList", "isGood", "(I)Z"⟩ ∈ TB := tb_of (i := 565) rfl rfl
set_option maxRecDepth 100000 in
theorem tw_536 : Cond.instanceMethod ⟨"OutletOffice$CardList", "isGood", "(I)Z"⟩ ∈ TB := tb_of (i := 566) rfl rfl
set_option maxRecDepth 100000 in
theorem tw_537 : Cond.selects "OutletOffice$CardList" ⟨"OutletOffice$CardList", "isGood", "(I)Z"⟩ ⟨"OutletOffice$CardList", "isGood", "(I)Z"⟩ ∈ TB := tb_of (i := 567) rfl rfl
set_option maxRecDepth 100000 in
theorem tw_538 : Cond.code yy_Cards_isGood bb_Cards_isGood 2 (some .boolean) ∈ TB := tb_of (i := 568) rfl rfl
set_option maxRecDepth 100000 in
theorem tw_539 : Cond.methodLink "OutletOffice" 121 ⟨"OutletOffice$Point", "begin", "(II)V"⟩ ∈ TB := tb_of (i := 569) rfl rfl
set_option maxRecDepth 100000 in
theorem tw_54 : Cond.methodLink "OutletOffice$Tariff" 3 ⟨"java/lang/Object", "<init>", "()V"⟩ ∈ TB := tb_of (i := 84) rfl rfl
set_option maxRecDepth 100000 in
theorem tw_540 : Cond.instanceMethod ⟨"OutletOffice$Point", "begin", "(II)V"⟩ ∈ TB := tb_of (i := 570) rfl rfl
set_option maxRecDepth 100000 in
theorem tw_541 : Cond.selects "OutletOffice$Point" ⟨"OutletOffice$Point", "begin", "(II)V"⟩ ⟨"OutletOffice$Point", "begin", "(II)V"⟩ ∈ TB := tb_of (i := 571) rfl rfl
set_option maxRecDepth 100000 in
theorem tw_542 : Cond.code yy_Point_begin bb_Point_begin 3 (none : Option Jvm.ClassFile.FieldType) ∈ TB := tb_of (i := 572) rfl rfl
set_option maxRecDepth 100000 in
theorem tw_543 : Cond.methodLink "OutletOffice" 127 ⟨"OutletOffice$CardList", "areOfOneHolder", "(II)Z"⟩ ∈ TB := tb_of (i := 573) rfl rfl
set_option maxRecDepth 100000 in
theorem tw_544 : Cond.instanceMethod ⟨"OutletOffice$CardList", "areOfOneHolder", "(II)Z"⟩ ∈ TB := tb_of (i := 574) rfl rfl
set_option maxRecDepth 100000 in
theorem tw_545 : Cond.selects "OutletOffice$CardList" ⟨"OutletOffice$CardList", "areOfOneHolder", "(II)Z"⟩ ⟨"OutletOffice$CardList", "areOfOneHolder", "(II)Z"⟩ ∈ TB := tb_of (i := 575) rfl rfl
set_option maxRecDepth 100000 in
theorem tw_546 : Cond.code yy_Cards_areOfOneHolder bb_Cards_areOfOneHolder 3 (some .boolean) ∈ TB := tb_of (i := 576) rfl rfl
set_option maxRecDepth 100000 in
theorem tw_547 : Cond.methodLink "OutletOfficeLaw" 127 ⟨"OutletOfficeLaw", "line", "(LOutletOffice;IZ)I"⟩ ∈ TB := tb_of (i := 577) rfl rfl
set_option maxRecDepth 100000 in
theorem tw_548 : Cond.static ⟨"OutletOfficeLaw", "line", "(LOutletOffice;IZ)I"⟩ ∈ TB := tb_of (i := 578) rfl rfl
set_option maxRecDepth 100000 in
theorem tw_549 : Cond.codeWith yy_Law_line bb_Law_line 4 (some .int) [((0 : Nat), (6 : Nat), (9 : Nat), (13 : Nat))] ∈ TB := tb_of (i := 579) rfl rfl
set_option maxRecDepth 100000 in
theorem tw_55 : Cond.fieldLink "OutletOffice$Tariff" 9 "OutletOffice$Tariff" "minutes" "[I" ∈ TB := tb_of (i := 85) rfl rfl
set_option maxRecDepth 100000 in
theorem tw_550 : Cond.methodLink "OutletOfficeLaw" 46 ⟨"OutletOffice", "line", "(IZ)V"⟩ ∈ TB := tb_of (i := 580) rfl rfl
set_option maxRecDepth 100000 in
theorem tw_551 : Cond.instanceMethod ⟨"OutletOffice", "line", "(IZ)V"⟩ ∈ TB := tb_of (i := 581) rfl rfl
set_option maxRecDepth 100000 in
theorem tw_552 : Cond.selects "OutletOffice" ⟨"OutletOffice", "line", "(IZ)V"⟩ ⟨"OutletOffice", "line", "(IZ)V"⟩ ∈ TB := tb_of (i := 582) rfl rfl
set_option maxRecDepth 100000 in
theorem tw_553 : Cond.code yy_Out_line bb_Out_line 3 (none : Option Jvm.ClassFile.FieldType) ∈ TB := tb_of (i := 583) rfl rfl
set_option maxRecDepth 100000 in
theorem tw_554 : Cond.methodLink "OutletOffice" 131 ⟨"OutletOffice$Point", "setLine", "(Z)V"⟩ ∈ TB := tb_of (i := 584) rfl rfl
set_option maxRecDepth 100000 in
theorem tw_555 : Cond.instanceMethod ⟨"OutletOffice$Point", "setLine", "(Z)V"⟩ ∈ TB := tb_of (i := 585) rfl rfl
set_option maxRecDepth 100000 in
theorem tw_556 : Cond.selects "OutletOffice$Point" ⟨"OutletOffice$Point", "setLine", "(Z)V"⟩ ⟨"OutletOffice$Point", "setLine", "(Z)V"⟩ ∈ TB := tb_of (i := 586) rfl rfl
set_option maxRecDepth 100000 in
theorem tw_557 : Cond.code yy_Point_setLine bb_Point_setLine 2 (none : Option Jvm.ClassFile.FieldType) ∈ TB := tb_of (i := 587) rfl rfl
set_option maxRecDepth 100000 in
theorem tw_558 : Cond.methodLink "OutletOffice$Point" 97 ⟨"OutletOffice$Point", "dropIfUnreachable", "()V"⟩ ∈ TB := tb_of (i := 588) rfl rfl
set_option maxRecDepth 100000 in
theorem tw_56 : Cond.fieldLink "OutletOffice$Tariff" 15 "OutletOffice$Tariff" "prices" "[I" ∈ TB := tb_of (i := 86) rfl rfl
set_option maxRecDepth 100000 in
theorem tw_560 : Cond.instanceMethod ⟨"OutletOffice$Point", "dropIfUnreachable", "()V"⟩ ∈ TB := tb_of (i := 590) rfl rfl
set_option maxRecDepth 100000 in
theorem tw_561 : Cond.code yy_Point_dropIfUnreachable bb_Point_dropIfUnreachable 1 (none : Option Jvm.ClassFile.FieldType) ∈ TB := tb_of (i := 591) rfl rfl
set_option maxRecDepth 100000 in
theorem tw_562 : Cond.methodLink "OutletOffice$Point" 104 ⟨"OutletOffice$Point", "isReachable", "()Z"⟩ ∈ TB := tb_of (i := 592) rfl rfl
set_option maxRecDepth 100000 in
theorem tw_563 : Cond.methodLink "OutletOfficeLaw" 131 ⟨"OutletOfficeLaw", "power", "(LOutletOffice;IZ)I"⟩ ∈ TB := tb_of (i := 593) rfl rfl
set_option maxRecDepth 100000 in
theorem tw_564 : Cond.static ⟨"OutletOfficeLaw", "power", "(LOutletOffice;IZ)I"⟩ ∈ TB := tb_of (i := 594) rfl rfl
set_option maxRecDepth 100000 in
theorem tw_565 : Cond.codeWith yy_Law_power bb_Law_power 4 (some .int) [((0 : Nat), (6 : Nat), (9 : Nat), (13 : Nat))] ∈ TB := tb_of (i := 595) rfl rfl
set_option maxRecDepth 100000 in
theorem tw_566 : Cond.methodLink "OutletOfficeLaw" 50 ⟨"OutletOffice", "power", "(IZ)V"⟩ ∈ TB := tb_of (i := 596) rfl rfl
set_option maxRecDepth 100000 in
theorem tw_567 : Cond.instanceMethod ⟨"OutletOffice", "power", "(IZ)V"⟩ ∈ TB := tb_of (i := 597) rfl rfl
set_option maxRecDepth 100000 in
theorem tw_568 : Cond.selects "OutletOffice" ⟨"OutletOffice", "power", "(IZ)V"⟩ ⟨"OutletOffice", "power", "(IZ)V"⟩ ∈ TB := tb_of (i := 598) rfl rfl
set_option maxRecDepth 100000 in
theorem tw_569 : Cond.code yy_Out_power bb_Out_power 3 (none : Option Jvm.ClassFile.FieldType) ∈ TB := tb_of (i := 599) rfl rfl
set_option maxRecDepth 100000 in
theorem tw_57 : Cond.fieldLink "OutletOffice$Tariff" 18 "OutletOffice$Tariff" "startFee" "I" ∈ TB := tb_of (i := 87) rfl rfl
set_option maxRecDepth 100000 in
theorem tw_570 : Cond.methodLink "OutletOffice" 135 ⟨"OutletOffice$Point", "setPower", "(ZI)V"⟩ ∈ TB := tb_of (i := 600) rfl rfl
set_option maxRecDepth 100000 in
theorem tw_571 : Cond.instanceMethod ⟨"OutletOffice$Point", "setPower", "(ZI)V"⟩ ∈ TB := tb_of (i := 601) rfl rfl
set_option maxRecDepth 100000 in
theorem tw_572 : Cond.selects "OutletOffice$Point" ⟨"OutletOffice$Point", "setPower", "(ZI)V"⟩ ⟨"OutletOffice$Point", "setPower", "(ZI)V"⟩ ∈ TB := tb_of (i := 602) rfl rfl
set_option maxRecDepth 100000 in
theorem tw_573 : Cond.code yy_Point_setPower bb_Point_setPower 4 (none : Option Jvm.ClassFile.FieldType) ∈ TB := tb_of (i := 603) rfl rfl
set_option maxRecDepth 100000 in
theorem tw_574 : Cond.methodLink "OutletOffice$Point" 100 ⟨"OutletOffice$Point", "end", "(II)V"⟩ ∈ TB := tb_of (i := 604) rfl rfl
set_option maxRecDepth 100000 in
theorem tw_575 : Cond.methodLink "OutletOfficeLaw" 134 ⟨"OutletOfficeLaw", "carry", "(LOutletOffice;I[J)I"⟩ ∈ TB := tb_of (i := 605) rfl rfl
set_option maxRecDepth 100000 in
theorem tw_576 : Cond.static ⟨"OutletOfficeLaw", "carry", "(LOutletOffice;I[J)I"⟩ ∈ TB := tb_of (i := 606) rfl rfl
set_option maxRecDepth 100000 in
theorem tw_577 : Cond.codeWith yy_Law_carry bb_Law_carry 4 (some .int) [((0 : Nat), (9 : Nat), (12 : Nat), (13 : Nat))] ∈ TB := tb_of (i := 607) rfl rfl
set_option maxRecDepth 100000 in
theorem tw_578 : Cond.methodLink "OutletOfficeLaw" 53 ⟨"OutletOffice", "carry", "(I)I"⟩ ∈ TB := tb_of (i := 608) rfl rfl
set_option maxRecDepth 100000 in
theorem tw_579 : Cond.instanceMethod ⟨"OutletOffice", "carry", "(I)I"⟩ ∈ TB := tb_of (i := 609) rfl rfl
set_option maxRecDepth 100000 in
theorem tw_58 : Cond.fieldLink "OutletOffice$Office" 52 "OutletOffice$Tariff" "startFee" "I" ∈ TB := tb_of (i := 88) rfl rfl
set_option maxRecDepth 100000 in
theorem tw_580 : Cond.selects "OutletOffice" ⟨"OutletOffice", "carry", "(I)I"⟩ ⟨"OutletOffice", "carry", "(I)I"⟩ ∈ TB := tb_of (i := 610) rfl rfl
set_option maxRecDepth 100000 in
theorem tw_581 : Cond.code yy_Out_carry bb_Out_carry 4 (some .int) ∈ TB := tb_of (i := 611) rfl rfl
set_option maxRecDepth 100000 in
theorem tw_582 : Cond.methodLink "OutletOffice" 146 ⟨"OutletOffice$Queue", "firstNumber", "()I"⟩ ∈ TB := tb_of (i := 612) rfl rfl
set_option maxRecDepth 100000 in
theorem tw_583 : Cond.instanceMethod ⟨"OutletOffice$Queue", "firstNumber", "()I"⟩ ∈ TB := tb_of (i := 613) rfl rfl
set_option maxRecDepth 100000 in
theorem tw_584 : Cond.selects "OutletOffice$Queue" ⟨"OutletOffice$Queue", "firstNumber", "()I"⟩ ⟨"OutletOffice$Queue", "firstNumber", "()I"⟩ ∈ TB := tb_of (i := 614) rfl rfl
set_option maxRecDepth 100000 in
theorem tw_585 : Cond.code yy_Queue_firstNumber bb_Queue_firstNumber 1 (some .int) ∈ TB := tb_of (i := 615) rfl rfl
set_option maxRecDepth 100000 in
theorem tw_586 : Cond.methodLink "OutletOffice" 152 ⟨"OutletOffice$Queue", "first", "()LOutletOffice$Message;"⟩ ∈ TB := tb_of (i := 616) rfl rfl
set_option maxRecDepth 100000 in
theorem tw_587 : Cond.instanceMethod ⟨"OutletOffice$Queue", "first", "()LOutletOffice$Message;"⟩ ∈ TB := tb_of (i := 617) rfl rfl
set_option maxRecDepth 100000 in
theorem tw_588 : Cond.selects "OutletOffice$Queue" ⟨"OutletOffice$Queue", "first", "()LOutletOffice$Message;"⟩ ⟨"OutletOffice$Queue", "first", "()LOutletOffice$Message;"⟩ ∈ TB := tb_of (i := 618) rfl rfl
set_option maxRecDepth 100000 in
theorem tw_589 : Cond.code yy_Queue_first bb_Queue_first 1 (some (.object "OutletOffice$Message")) ∈ TB := tb_of (i := 619) rfl rfl
set_option maxRecDepth 100000 in
theorem tw_59 : Cond.fieldLink "OutletOffice" 49 "OutletOffice$Tariff" "startFee" "I" ∈ TB := tb_of (i := 89) rfl rfl
set_option maxRecDepth 100000 in
theorem tw_590 : Cond.methodLink "OutletOffice" 156 ⟨"OutletOffice$Office", "takeIn", "(IILOutletOffice$Message;)V"⟩ ∈ TB := tb_of (i := 620) rfl rfl
set_option maxRecDepth 100000 in
theorem tw_591 : Cond.instanceMethod ⟨"OutletOffice$Office", "takeIn", "(IILOutletOffice$Message;)V"⟩ ∈ TB := tb_of (i := 621) rfl rfl
set_option maxRecDepth 100000 in
theorem tw_592 : Cond.selects "OutletOffice$Office" ⟨"OutletOffice$Office", "takeIn", "(IILOutletOffice$Message;)V"⟩ ⟨"OutletOffice$Office", "takeIn", "(IILOutletOffice$Message;)V"⟩ ∈ TB := tb_of (i := 622) rfl rfl
set_option maxRecDepth 100000 in
theorem tw_593 : Cond.code yy_Office_takeIn bb_Office_takeIn 5 (none : Option Jvm.ClassFile.FieldType) ∈ TB := tb_of (i := 623) rfl rfl
set_option maxRecDepth 100000 in
theorem tw_594 : Cond.methodLink "OutletOffice$Office" 55 ⟨"OutletOffice$Bill", "begin", "(LOutletOffice$Message;I)V"⟩ ∈ TB := tb_of (i := 624) rfl rfl
set_option maxRecDepth 100000 in
theorem tw_595 : Cond.instanceMethod ⟨"OutletOffice$Bill", "begin", "(LOutletOffice$Message;I)V"⟩ ∈ TB := tb_of (i := 625) rfl rfl
set_option maxRecDepth 100000 in
theorem tw_596 : Cond.selects "OutletOffice$Bill" ⟨"OutletOffice$Bill", "begin", "(LOutletOffice$Message;I)V"⟩ ⟨"OutletOffice$Bill", "begin", "(LOutletOffice$Message;I)V"⟩ ∈ TB := tb_of (i := 626) rfl rfl
set_option maxRecDepth 100000 in
theorem tw_597 : Cond.code yy_Bill_begin bb_Bill_begin 3 (none : Option Jvm.ClassFile.FieldType) ∈ TB := tb_of (i := 627) rfl rfl
set_option maxRecDepth 100000 in
theorem tw_598 : Cond.methodLink "OutletOffice$Office" 62 ⟨"OutletOffice$Tariff", "priceAt", "(I)I"⟩ ∈ TB := tb_of (i := 628) rfl rfl
set_option maxRecDepth 100000 in
theorem tw_599 : Cond.instanceMethod ⟨"OutletOffice$Tariff", "priceAt", "(I)I"⟩ ∈ TB := tb_of (i := 629) rfl rfl
set_option maxRecDepth 100000 in
theorem tw_6 : Cond.initialized "OutletOffice$Site" ∈ TB := tb_of (i := 36) rfl rfl
set_option maxRecDepth 100000 in
theorem tw_60 : Cond.fieldLink "OutletOffice$Tariff" 22 "OutletOffice$Tariff" "idleFee" "I" ∈ TB := tb_of (i := 90) rfl rfl
set_option maxRecDepth 100000 in
theorem tw_600 : Cond.selects "OutletOffice$Tariff" ⟨"OutletOffice$Tariff", "priceAt", "(I)I"⟩ ⟨"OutletOffice$Tariff", "priceAt", "(I)I"⟩ ∈ TB := tb_of (i := 630) rfl rfl
set_option maxRecDepth 100000 in
theorem tw_601 : Cond.code yy_Tariff_priceAt bb_Tariff_priceAt 3 (some .int) ∈ TB := tb_of (i := 631) rfl rfl
set_option maxRecDepth 100000 in
theorem tw_602 : Cond.methodLink "OutletOffice$Tariff" 25 ⟨"OutletOffice$Tariff", "latestBand", "(I)I"⟩ ∈ TB := tb_of (i := 632) rfl rfl
set_option maxRecDepth 100000 in
theorem tw_604 : Cond.instanceMethod ⟨"OutletOffice$Tariff", "latestBand", "(I)I"⟩ ∈ TB := tb_of (i := 634) rfl rfl
set_option maxRecDepth 100000 in
theorem tw_605 : Cond.code yy_Tariff_latestBand bb_Tariff_latestBand 5 (some .int) ∈ TB := tb_of (i := 635) rfl rfl
set_option maxRecDepth 100000 in
theorem tw_606 : Cond.methodLink "OutletOffice$Office" 66 ⟨"OutletOffice$Bill", "grow", "(LOutletOffice$Message;I)V"⟩ ∈ TB := tb_of (i := 636) rfl rfl
set_option maxRecDepth 100000 in
theorem tw_607 : Cond.instanceMethod ⟨"OutletOffice$Bill", "grow", "(LOutletOffice$Message;I)V"⟩ ∈ TB := tb_of (i := 637) rfl rfl
set_option maxRecDepth 100000 in
theorem tw_608 : Cond.selects "OutletOffice$Bill" ⟨"OutletOffice$Bill", "grow", "(LOutletOffice$Message;I)V"⟩ ⟨"OutletOffice$Bill", "grow", "(LOutletOffice$Message;I)V"⟩ ∈ TB := tb_of (i := 638) rfl rfl
set_option maxRecDepth 100000 in
theorem tw_609 : Cond.code yy_Bill_grow bb_Bill_grow 3 (none : Option Jvm.ClassFile.FieldType) ∈ TB := tb_of (i := 639) rfl rfl
set_option maxRecDepth 100000 in
theorem tw_61 : Cond.fieldLink "OutletOffice$Office" 76 "OutletOffice$Tariff" "idleFee" "I" ∈ TB := tb_of (i := 91) rfl rfl
set_option maxRecDepth 100000 in
theorem tw_610 : Cond.methodLink "OutletOffice$Office" 79 ⟨"OutletOffice$Office", "close", "(ILOutletOffice$Bill;)V"⟩ ∈ TB := tb_of (i := 640) rfl rfl
set_option maxRecDepth 100000 in
theorem tw_612 : Cond.instanceMethod ⟨"OutletOffice$Office", "close", "(ILOutletOffice$Bill;)V"⟩ ∈ TB := tb_of (i := 642) rfl rfl
set_option maxRecDepth 100000 in
theorem tw_613 : Cond.code yy_Office_close bb_Office_close 4 (none : Option Jvm.ClassFile.FieldType) ∈ TB := tb_of (i := 643) rfl rfl
set_option maxRecDepth 100000 in
theorem tw_614 : Cond.methodLink "OutletOffice$Office" 90 ⟨"OutletOffice$Bill", "cents", "()I"⟩ ∈ TB := tb_of (i := 644) rfl rfl
set_option maxRecDepth 100000 in
theorem tw_615 : Cond.instanceMethod ⟨"OutletOffice$Bill", "cents", "()I"⟩ ∈ TB := tb_of (i := 645) rfl rfl
set_option maxRecDepth 100000 in
theorem tw_616 : Cond.selects "OutletOffice$Bill" ⟨"OutletOffice$Bill", "cents", "()I"⟩ ⟨"OutletOffice$Bill", "cents", "()I"⟩ ∈ TB := tb_of (i := 646) rfl rfl
set_option maxRecDepth 100000 in
theorem tw_617 : Cond.code yy_Bill_cents bb_Bill_cents 1 (some .int) ∈ TB := tb_of (i := 647) rfl rfl
set_option maxRecDepth 100000 in
theorem tw_618 : Cond.constantLong "OutletOffice$Bill" 41 5000 ∈ TB := tb_of (i := 648) rfl rfl
set_option maxRecDepth 100000 in
theorem tw_619 : Cond.constantLong "OutletOffice$Bill" 43 10000 ∈ TB := tb_of (i := 649) rfl rfl
set_option maxRecDepth 100000 in
theorem tw_62 : Cond.fieldLink "OutletOffice" 52 "OutletOffice$Tariff" "idleFee" "I" ∈ TB := tb_of (i := 92) rfl rfl
set_option maxRecDepth 100000 in
theorem tw_620 : Cond.methodLink "OutletOffice" 160 ⟨"OutletOffice$Queue", "removeFirst", "()V"⟩ ∈ TB := tb_of (i := 650) rfl rfl
set_option maxRecDepth 100000 in
theorem tw_621 : Cond.instanceMethod ⟨"OutletOffice$Queue", "removeFirst", "()V"⟩ ∈ TB := tb_of (i := 651) rfl rfl
set_option maxRecDepth 100000 in
theorem tw_622 : Cond.selects "OutletOffice$Queue" ⟨"OutletOffice$Queue", "removeFirst", "()V"⟩ ⟨"OutletOffice$Queue", "removeFirst", "()V"⟩ ∈ TB := tb_of (i := 652) rfl rfl
set_option maxRecDepth 100000 in
theorem tw_623 : Cond.code yy_Queue_removeFirst bb_Queue_removeFirst 1 (none : Option Jvm.ClassFile.FieldType) ∈ TB := tb_of (i := 653) rfl rfl
set_option maxRecDepth 100000 in
theorem tw_624 : Cond.methodLink "OutletOfficeLaw" 137 ⟨"OutletOfficeLaw", "lose", "(LOutletOffice;I[J)I"⟩ ∈ TB := tb_of (i := 654) rfl rfl
set_option maxRecDepth 100000 in
theorem tw_625 : Cond.static ⟨"OutletOfficeLaw", "lose", "(LOutletOffice;I[J)I"⟩ ∈ TB := tb_of (i := 655) rfl rfl
set_option maxRecDepth 100000 in
theorem tw_626 : Cond.codeWith yy_Law_lose bb_Law_lose 4 (some .int) [((0 : Nat), (16 : Nat), (19 : Nat), (13 : Nat))] ∈ TB := tb_of (i := 656) rfl rfl
set_option maxRecDepth 100000 in
theorem tw_627 : Cond.methodLink "OutletOfficeLaw" 57 ⟨"OutletOffice", "lose", "(I)Z"⟩ ∈ TB := tb_of (i := 657) rfl rfl
set_option maxRecDepth 100000 in
theorem tw_628 : Cond.instanceMethod ⟨"OutletOffice", "lose", "(I)Z"⟩ ∈ TB := tb_of (i := 658) rfl rfl
set_option maxRecDepth 100000 in
theorem tw_629 : Cond.selects "OutletOffice" ⟨"OutletOffice", "lose", "(I)Z"⟩ ⟨"OutletOffice", "lose", "(I)Z"⟩ ∈ TB := tb_of (i := 659) rfl rfl
set_option maxRecDepth 100000 in
theorem tw_630 : Cond.code yy_Out_lose bb_Out_lose 4 (some .boolean) ∈ TB := tb_of (i := 660) rfl rfl
set_option maxRecDepth 100000 in
theorem tw_631 : Cond.methodLink "OutletOfficeLaw" 140 ⟨"OutletOfficeLaw", "pass", "(LOutletOffice;I[J)I"⟩ ∈ TB := tb_of (i := 661) rfl rfl
set_option maxRecDepth 100000 in
theorem tw_632 : Cond.static ⟨"OutletOfficeLaw", "pass", "(LOutletOffice;I[J)I"⟩ ∈ TB := tb_of (i := 662) rfl rfl
set_option maxRecDepth 100000 in
theorem tw_633 : Cond.codeWith yy_Law_pass bb_Law_pass 4 (some .int) [((0 : Nat), (9 : Nat), (12 : Nat), (15 : Nat))] ∈ TB := tb_of (i := 663) rfl rfl
set_option maxRecDepth 100000 in
theorem tw_634 : Cond.methodLink "OutletOfficeLaw" 60 ⟨"OutletOffice", "pass", "(I)I"⟩ ∈ TB := tb_of (i := 664) rfl rfl
set_option maxRecDepth 100000 in
theorem tw_635 : Cond.instanceMethod ⟨"OutletOffice", "pass", "(I)I"⟩ ∈ TB := tb_of (i := 665) rfl rfl
set_option maxRecDepth 100000 in
theorem tw_636 : Cond.selects "OutletOffice" ⟨"OutletOffice", "pass", "(I)I"⟩ ⟨"OutletOffice", "pass", "(I)I"⟩ ∈ TB := tb_of (i := 666) rfl rfl
set_option maxRecDepth 100000 in
theorem tw_637 : Cond.code yy_Out_pass bb_Out_pass 4 (some .int) ∈ TB := tb_of (i := 667) rfl rfl
set_option maxRecDepth 100000 in
theorem tw_638 : Cond.constant "OutletOffice" 163 86400 ∈ TB := tb_of (i := 668) rfl rfl
set_option maxRecDepth 100000 in
theorem tw_639 : Cond.constant "OutletOffice" 164 1000000000 ∈ TB := tb_of (i := 669) rfl rfl
set_option maxRecDepth 100000 in
theorem tw_640 : Cond.methodLink "OutletOffice" 165 ⟨"OutletOffice", "evenSeconds", "(I)I"⟩ ∈ TB := tb_of (i := 670) rfl rfl
set_option maxRecDepth 100000 in
theorem tw_642 : Cond.instanceMethod ⟨"OutletOffice", "evenSeconds", "(I)I"⟩ ∈ TB := tb_of (i := 672) rfl rfl
set_option maxRecDepth 100000 in
theorem tw_643 : Cond.code yy_Out_evenSeconds bb_Out_evenSeconds 11 (some .int) ∈ TB := tb_of (i := 673) rfl rfl
set_option maxRecDepth 100000 in
theorem tw_644 : Cond.methodLink "OutletOffice" 172 ⟨"OutletOffice$Site", "share", "(I)V"⟩ ∈ TB := tb_of (i := 674) rfl rfl
set_option maxRecDepth 100000 in
theorem tw_645 : Cond.instanceMethod ⟨"OutletOffice$Site", "share", "(I)V"⟩ ∈ TB := tb_of (i := 675) rfl rfl
set_option maxRecDepth 100000 in
theorem tw_646 : Cond.selects "OutletOffice$Site" ⟨"OutletOffice$Site", "share", "(I)V"⟩ ⟨"OutletOffice$Site", "share", "(I)V"⟩ ∈ TB := tb_of (i := 676) rfl rfl
set_option maxRecDepth 100000 in
theorem tw_647 : Cond.code yy_Site_share bb_Site_share 9 (none : Option Jvm.ClassFile.FieldType) ∈ TB := tb_of (i := 677) rfl rfl
set_option maxRecDepth 100000 in
theorem tw_648 : Cond.methodLink "OutletOffice$Site" 22 ⟨"OutletOffice$Site", "safeCurrent", "()I"⟩ ∈ TB := tb_of (i := 678) rfl rfl
set_option maxRecDepth 100000 in
theorem tw_650 : Cond.instanceMethod ⟨"OutletOffice$Site", "safeCurrent", "()I"⟩ ∈ TB := tb_of (i := 680) rfl rfl
set_option maxRecDepth 100000 in
theorem tw_651 : Cond.code yy_Site_safeCurrent bb_Site_safeCurrent 2 (some .int) ∈ TB := tb_of (i := 681) rfl rfl
set_option maxRecDepth 100000 in
theorem tw_652 : Cond.methodLink "OutletOffice$Site" 33 ⟨"OutletOffice$Point", "isActive", "()Z"⟩ ∈ TB := tb_of (i := 682) rfl rfl
set_option maxRecDepth 100000 in
theorem tw_653 : Cond.instanceMethod ⟨"OutletOffice$Point", "isActive", "()Z"⟩ ∈ TB := tb_of (i := 683) rfl rfl
set_option maxRecDepth 100000 in
theorem tw_654 : Cond.selects "OutletOffice$Point" ⟨"OutletOffice$Point", "isActive", "()Z"⟩ ⟨"OutletOffice$Point", "isActive", "()Z"⟩ ∈ TB := tb_of (i := 684) rfl rfl
set_option maxRecDepth 100000 in
theorem tw_655 : Cond.code yy_Point_isActive bb_Point_isActive 1 (some .boolean) ∈ TB := tb_of (i := 685) rfl rfl
set_option maxRecDepth 100000 in
theorem tw_656 : Cond.methodLink "OutletOffice$Point" 62 ⟨"OutletOffice$Point", "runs", "()Z"⟩ ∈ TB := tb_of (i := 686) rfl rfl
set_option maxRecDepth 100000 in
theorem tw_657 : Cond.methodLink "OutletOffice$Site" 46 ⟨"java/lang/Math", "min", "(II)I"⟩ ∈ TB := tb_of (i := 687) rfl rfl
set_option maxRecDepth 100000 in
theorem tw_658 : Cond.static ⟨"java/lang/Math", "min", "(II)I"⟩ ∈ TB := tb_of (i := 688) rfl rfl
set_option maxRecDepth 100000 in
theorem tw_659 : Cond.code ⟨"java/lang/Math", "min", "(II)I"⟩ prog_16_method_69_code 2 (some .int) ∈ TB := tb_of (i := 689) rfl rfl
set_option maxRecDepth 100000 in
theorem tw_660 : Cond.methodLink "OutletOffice$Site" 52 ⟨"OutletOffice$Site", "choose", "(II)V"⟩ ∈ TB := tb_of (i := 690) rfl rfl
set_option maxRecDepth 100000 in
theorem tw_662 : Cond.instanceMethod ⟨"OutletOffice$Site", "choose", "(II)V"⟩ ∈ TB := tb_of (i := 692) rfl rfl
set_option maxRecDepth 100000 in
theorem tw_663 : Cond.code yy_Site_choose bb_Site_choose 6 (none : Option Jvm.ClassFile.FieldType) ∈ TB := tb_of (i := 693) rfl rfl
set_option maxRecDepth 100000 in
theorem tw_664 : Cond.methodLink "OutletOffice$Site" 56 ⟨"OutletOffice$Site", "greatestLevel", "(I)I"⟩ ∈ TB := tb_of (i := 694) rfl rfl
set_option maxRecDepth 100000 in
theorem tw_666 : Cond.instanceMethod ⟨"OutletOffice$Site", "greatestLevel", "(I)I"⟩ ∈ TB := tb_of (i := 696) rfl rfl
set_option maxRecDepth 100000 in
theorem tw_667 : Cond.code yy_Site_greatestLevel bb_Site_greatestLevel 5 (some .int) ∈ TB := tb_of (i := 697) rfl rfl
set_option maxRecDepth 100000 in
theorem tw_668 : Cond.methodLink "OutletOffice$Site" 66 ⟨"OutletOffice$Site", "takenAt", "(I)I"⟩ ∈ TB := tb_of (i := 698) rfl rfl
set_option maxRecDepth 100000 in
theorem tw_670 : Cond.instanceMethod ⟨"OutletOffice$Site", "takenAt", "(I)I"⟩ ∈ TB := tb_of (i := 700) rfl rfl
set_option maxRecDepth 100000 in
theorem tw_671 : Cond.code yy_Site_takenAt bb_Site_takenAt 7 (some .int) ∈ TB := tb_of (i := 701) rfl rfl
set_option maxRecDepth 100000 in
theorem tw_672 : Cond.methodLink "OutletOffice$Site" 63 ⟨"OutletOffice$Point", "takesAt", "(I)I"⟩ ∈ TB := tb_of (i := 702) rfl rfl
set_option maxRecDepth 100000 in
theorem tw_673 : Cond.instanceMethod ⟨"OutletOffice$Point", "takesAt", "(I)I"⟩ ∈ TB := tb_of (i := 703) rfl rfl
set_option maxRecDepth 100000 in
theorem tw_674 : Cond.selects "OutletOffice$Point" ⟨"OutletOffice$Point", "takesAt", "(I)I"⟩ ⟨"OutletOffice$Point", "takesAt", "(I)I"⟩ ∈ TB := tb_of (i := 704) rfl rfl
set_option maxRecDepth 100000 in
theorem tw_675 : Cond.code yy_Point_takesAt bb_Point_takesAt 2 (some .int) ∈ TB := tb_of (i := 705) rfl rfl
set_option maxRecDepth 100000 in
theorem tw_676 : Cond.methodLink "OutletOffice$Point" 72 ⟨"java/lang/Math", "max", "(II)I"⟩ ∈ TB := tb_of (i := 706) rfl rfl
set_option maxRecDepth 100000 in
theorem tw_677 : Cond.static ⟨"java/lang/Math", "max", "(II)I"⟩ ∈ TB := tb_of (i := 707) rfl rfl
set_option maxRecDepth 100000 in
theorem tw_678 : Cond.code ⟨"java/lang/Math", "max", "(II)I"⟩ prog_16_method_65_code 2 (some .int) ∈ TB := tb_of (i := 708) rfl rfl
set_option maxRecDepth 100000 in
theorem tw_679 : Cond.methodLink "OutletOffice$Point" 78 ⟨"java/lang/Math", "min", "(II)I"⟩ ∈ TB := tb_of (i := 709) rfl rfl
set_option maxRecDepth 100000 in
theorem tw_680 : Cond.methodLink "OutletOffice" 238 ⟨"OutletOffice$Point", "evenSeconds", "(II)I"⟩ ∈ TB := tb_of (i := 710) rfl rfl
set_option maxRecDepth 100000 in
theorem tw_681 : Cond.instanceMethod ⟨"OutletOffice$Point", "evenSeconds", "(II)I"⟩ ∈ TB := tb_of (i := 711) rfl rfl
set_option maxRecDepth 100000 in
theorem tw_682 : Cond.selects "OutletOffice$Point" ⟨"OutletOffice$Point", "evenSeconds", "(II)I"⟩ ⟨"OutletOffice$Point", "evenSeconds", "(II)I"⟩ ∈ TB := tb_of (i := 712) rfl rfl
set_option maxRecDepth 100000 in
theorem tw_683 : Cond.code yy_Point_evenSeconds bb_Point_evenSeconds 5 (some .int) ∈ TB := tb_of (i := 713) rfl rfl
set_option maxRecDepth 100000 in
theorem tw_684 : Cond.methodLink "OutletOffice$Point" 107 ⟨"OutletOffice$Point", "hasRoomForReading", "()Z"⟩ ∈ TB := tb_of (i := 714) rfl rfl
set_option maxRecDepth 100000 in
theorem tw_686 : Cond.instanceMethod ⟨"OutletOffice$Point", "hasRoomForReading", "()Z"⟩ ∈ TB := tb_of (i := 716) rfl rfl
set_option maxRecDepth 100000 in
theorem tw_687 : Cond.code yy_Point_hasRoomForReading bb_Point_hasRoomForReading 1 (some .boolean) ∈ TB := tb_of (i := 717) rfl rfl
set_option maxRecDepth 100000 in
theorem tw_688 : Cond.methodLink "OutletOffice$Point" 110 ⟨"OutletOffice$Car", "secondsToFull", "(II)I"⟩ ∈ TB := tb_of (i := 718) rfl rfl
set_option maxRecDepth 100000 in
theorem tw_689 : Cond.instanceMethod ⟨"OutletOffice$Car", "secondsToFull", "(II)I"⟩ ∈ TB := tb_of (i := 719) rfl rfl
set_option maxRecDepth 100000 in
theorem tw_690 : Cond.selects "OutletOffice$Car" ⟨"OutletOffice$Car", "secondsToFull", "(II)I"⟩ ⟨"OutletOffice$Car", "secondsToFull", "(II)I"⟩ ∈ TB := tb_of (i := 720) rfl rfl
set_option maxRecDepth 100000 in
theorem tw_691 : Cond.code yy_Car_secondsToFull bb_Car_secondsToFull 3 (some .int) ∈ TB := tb_of (i := 721) rfl rfl
set_option maxRecDepth 100000 in
theorem tw_692 : Cond.methodLink "OutletOffice$Point" 113 ⟨"OutletOffice$Point", "waitsToSend", "()Z"⟩ ∈ TB := tb_of (i := 722) rfl rfl
set_option maxRecDepth 100000 in
theorem tw_694 : Cond.instanceMethod ⟨"OutletOffice$Point", "waitsToSend", "()Z"⟩ ∈ TB := tb_of (i := 724) rfl rfl
set_option maxRecDepth 100000 in
theorem tw_695 : Cond.code yy_Point_waitsToSend bb_Point_waitsToSend 1 (some .boolean) ∈ TB := tb_of (i := 725) rfl rfl
set_option maxRecDepth 100000 in
theorem tw_696 : Cond.methodLink "OutletOffice$Point" 116 ⟨"OutletOffice$Queue", "firstDue", "(I)I"⟩ ∈ TB := tb_of (i := 726) rfl rfl
set_option maxRecDepth 100000 in
theorem tw_697 : Cond.instanceMethod ⟨"OutletOffice$Queue", "firstDue", "(I)I"⟩ ∈ TB := tb_of (i := 727) rfl rfl
set_option maxRecDepth 100000 in
theorem tw_698 : Cond.selects "OutletOffice$Queue" ⟨"OutletOffice$Queue", "firstDue", "(I)I"⟩ ⟨"OutletOffice$Queue", "firstDue", "(I)I"⟩ ∈ TB := tb_of (i := 728) rfl rfl
set_option maxRecDepth 100000 in
theorem tw_699 : Cond.code yy_Queue_firstDue bb_Queue_firstDue 2 (some .int) ∈ TB := tb_of (i := 729) rfl rfl
set_option maxRecDepth 100000 in
theorem tw_7 : Cond.initialized "OutletOffice$Point" ∈ TB := tb_of (i := 37) rfl rfl
set_option maxRecDepth 100000 in
theorem tw_700 : Cond.methodLink "OutletOffice" 212 ⟨"java/lang/Math", "min", "(II)I"⟩ ∈ TB := tb_of (i := 730) rfl rfl
set_option maxRecDepth 100000 in
theorem tw_701 : Cond.methodLink "OutletOffice" 168 ⟨"OutletOffice", "goOn", "(I)V"⟩ ∈ TB := tb_of (i := 731) rfl rfl
set_option maxRecDepth 100000 in
theorem tw_703 : Cond.instanceMethod ⟨"OutletOffice", "goOn", "(I)V"⟩ ∈ TB := tb_of (i := 733) rfl rfl
set_option maxRecDepth 100000 in
theorem tw_704 : Cond.code yy_Out_goOn bb_Out_goOn 10 (none : Option Jvm.ClassFile.FieldType) ∈ TB := tb_of (i := 734) rfl rfl
set_option maxRecDepth 100000 in
theorem tw_705 : Cond.methodLink "OutletOffice" 240 ⟨"OutletOffice$Point", "charge", "(II)V"⟩ ∈ TB := tb_of (i := 735) rfl rfl
set_option maxRecDepth 100000 in
theorem tw_706 : Cond.instanceMethod ⟨"OutletOffice$Point", "charge", "(II)V"⟩ ∈ TB := tb_of (i := 736) rfl rfl
set_option maxRecDepth 100000 in
theorem tw_707 : Cond.selects "OutletOffice$Point" ⟨"OutletOffice$Point", "charge", "(II)V"⟩ ⟨"OutletOffice$Point", "charge", "(II)V"⟩ ∈ TB := tb_of (i := 737) rfl rfl
set_option maxRecDepth 100000 in
theorem tw_708 : Cond.code yy_Point_charge bb_Point_charge 4 (none : Option Jvm.ClassFile.FieldType) ∈ TB := tb_of (i := 738) rfl rfl
set_option maxRecDepth 100000 in
theorem tw_709 : Cond.methodLink "OutletOffice$Point" 120 ⟨"OutletOffice$Car", "eat", "(II)V"⟩ ∈ TB := tb_of (i := 739) rfl rfl
set_option maxRecDepth 100000 in
theorem tw_710 : Cond.instanceMethod ⟨"OutletOffice$Car", "eat", "(II)V"⟩ ∈ TB := tb_of (i := 740) rfl rfl
set_option maxRecDepth 100000 in
theorem tw_711 : Cond.selects "OutletOffice$Car" ⟨"OutletOffice$Car", "eat", "(II)V"⟩ ⟨"OutletOffice$Car", "eat", "(II)V"⟩ ∈ TB := tb_of (i := 741) rfl rfl
set_option maxRecDepth 100000 in
theorem tw_712 : Cond.code yy_Car_eat bb_Car_eat 3 (none : Option Jvm.ClassFile.FieldType) ∈ TB := tb_of (i := 742) rfl rfl
set_option maxRecDepth 100000 in
theorem tw_713 : Cond.methodLink "OutletOffice" 243 ⟨"OutletOffice$Point", "read", "(I)V"⟩ ∈ TB := tb_of (i := 743) rfl rfl
set_option maxRecDepth 100000 in
theorem tw_714 : Cond.instanceMethod ⟨"OutletOffice$Point", "read", "(I)V"⟩ ∈ TB := tb_of (i := 744) rfl rfl
set_option maxRecDepth 100000 in
theorem tw_715 : Cond.selects "OutletOffice$Point" ⟨"OutletOffice$Point", "read", "(I)V"⟩ ⟨"OutletOffice$Point", "read", "(I)V"⟩ ∈ TB := tb_of (i := 745) rfl rfl
set_option maxRecDepth 100000 in
theorem tw_716 : Cond.code yy_Point_read bb_Point_read 2 (none : Option Jvm.ClassFile.FieldType) ∈ TB := tb_of (i := 746) rfl rfl
set_option maxRecDepth 100000 in
theorem tw_717 : Cond.methodLink "OutletOffice" 246 ⟨"OutletOffice$Point", "send", "(I)V"⟩ ∈ TB := tb_of (i := 747) rfl rfl
set_option maxRecDepth 100000 in
theorem tw_718 : Cond.instanceMethod ⟨"OutletOffice$Point", "send", "(I)V"⟩ ∈ TB := tb_of (i := 748) rfl rfl
set_option maxRecDepth 100000 in
theorem tw_719 : Cond.selects "OutletOffice$Point" ⟨"OutletOffice$Point", "send", "(I)V"⟩ ⟨"OutletOffice$Point", "send", "(I)V"⟩ ∈ TB := tb_of (i := 749) rfl rfl
set_option maxRecDepth 100000 in
theorem tw_72 : Cond.classLink "OutletOffice$Office" 25 "OutletOffice$Bill" ∈ TB := tb_of (i := 102) rfl rfl
set_option maxRecDepth 100000 in
theorem tw_720 : Cond.code yy_Point_send bb_Point_send 2 (none : Option Jvm.ClassFile.FieldType) ∈ TB := tb_of (i := 750) rfl rfl
set_option maxRecDepth 100000 in
theorem tw_721 : Cond.methodLink "OutletOfficeLaw" 147 ⟨"OutletOfficeLaw", "current", "(LOutletOffice;I[J)I"⟩ ∈ TB := tb_of (i := 751) rfl rfl
set_option maxRecDepth 100000 in
theorem tw_722 : Cond.static ⟨"OutletOfficeLaw", "current", "(LOutletOffice;I[J)I"⟩ ∈ TB := tb_of (i := 752) rfl rfl
set_option maxRecDepth 100000 in
theorem tw_723 : Cond.codeWith yy_Law_current bb_Law_current 4 (some .int) [((0 : Nat), (9 : Nat), (12 : Nat), (13 : Nat))] ∈ TB := tb_of (i := 753) rfl rfl
set_option maxRecDepth 100000 in
theorem tw_724 : Cond.methodLink "OutletOfficeLaw" 63 ⟨"OutletOffice", "current", "(I)I"⟩ ∈ TB := tb_of (i := 754) rfl rfl
set_option maxRecDepth 100000 in
theorem tw_725 : Cond.instanceMethod ⟨"OutletOffice", "current", "(I)I"⟩ ∈ TB := tb_of (i := 755) rfl rfl
set_option maxRecDepth 100000 in
theorem tw_726 : Cond.selects "OutletOffice" ⟨"OutletOffice", "current", "(I)I"⟩ ⟨"OutletOffice", "current", "(I)I"⟩ ∈ TB := tb_of (i := 756) rfl rfl
set_option maxRecDepth 100000 in
theorem tw_727 : Cond.code yy_Out_current bb_Out_current 3 (some .int) ∈ TB := tb_of (i := 757) rfl rfl
set_option maxRecDepth 100000 in
theorem tw_728 : Cond.methodLink "OutletOfficeLaw" 150 ⟨"OutletOfficeLaw", "sum", "(LOutletOffice;I[J)I"⟩ ∈ TB := tb_of (i := 758) rfl rfl
set_option maxRecDepth 100000 in
theorem tw_729 : Cond.static ⟨"OutletOfficeLaw", "sum", "(LOutletOffice;I[J)I"⟩ ∈ TB := tb_of (i := 759) rfl rfl
set_option maxRecDepth 100000 in
theorem tw_730 : Cond.codeWith yy_Law_sum bb_Law_sum 4 (some .int) [((0 : Nat), (9 : Nat), (12 : Nat), (13 : Nat))] ∈ TB := tb_of (i := 760) rfl rfl
set_option maxRecDepth 100000 in
theorem tw_731 : Cond.methodLink "OutletOfficeLaw" 66 ⟨"OutletOffice", "sum", "(I)I"⟩ ∈ TB := tb_of (i := 761) rfl rfl
set_option maxRecDepth 100000 in
theorem tw_732 : Cond.instanceMethod ⟨"OutletOffice", "sum", "(I)I"⟩ ∈ TB := tb_of (i := 762) rfl rfl
set_option maxRecDepth 100000 in
theorem tw_733 : Cond.selects "OutletOffice" ⟨"OutletOffice", "sum", "(I)I"⟩ ⟨"OutletOffice", "sum", "(I)I"⟩ ∈ TB := tb_of (i := 763) rfl rfl
set_option maxRecDepth 100000 in
theorem tw_734 : Cond.code yy_Out_sum bb_Out_sum 7 (some .int) ∈ TB := tb_of (i := 764) rfl rfl
set_option maxRecDepth 100000 in
theorem tw_735 : Cond.methodLink "OutletOfficeLaw" 153 ⟨"OutletOfficeLaw", "meter", "(LOutletOffice;I[J)I"⟩ ∈ TB := tb_of (i := 765) rfl rfl
set_option maxRecDepth 100000 in
theorem tw_736 : Cond.static ⟨"OutletOfficeLaw", "meter", "(LOutletOffice;I[J)I"⟩ ∈ TB := tb_of (i := 766) rfl rfl
set_option maxRecDepth 100000 in
theorem tw_737 : Cond.codeWith yy_Law_meter bb_Law_meter 4 (some .int) [((0 : Nat), (8 : Nat), (11 : Nat), (13 : Nat))] ∈ TB := tb_of (i := 767) rfl rfl
set_option maxRecDepth 100000 in
theorem tw_738 : Cond.methodLink "OutletOfficeLaw" 69 ⟨"OutletOffice", "meter", "(I)J"⟩ ∈ TB := tb_of (i := 768) rfl rfl
set_option maxRecDepth 100000 in
theorem tw_739 : Cond.instanceMethod ⟨"OutletOffice", "meter", "(I)J"⟩ ∈ TB := tb_of (i := 769) rfl rfl
set_option maxRecDepth 100000 in
theorem tw_74 : Cond.instantiable "OutletOffice$Bill" 7 ∈ TB := tb_of (i := 104) rfl rfl
set_option maxRecDepth 100000 in
theorem tw_740 : Cond.selects "OutletOffice" ⟨"OutletOffice", "meter", "(I)J"⟩ ⟨"OutletOffice", "meter", "(I)J"⟩ ∈ TB := tb_of (i := 770) rfl rfl
set_option maxRecDepth 100000 in
theorem tw_741 : Cond.code yy_Out_meter bb_Out_meter 2 (some .long) ∈ TB := tb_of (i := 771) rfl rfl
set_option maxRecDepth 100000 in
theorem tw_742 : Cond.methodLink "OutletOfficeLaw" 156 ⟨"OutletOfficeLaw", "about", "(LOutletOffice;II[J)I"⟩ ∈ TB := tb_of (i := 772) rfl rfl
set_option maxRecDepth 100000 in
theorem tw_743 : Cond.static ⟨"OutletOfficeLaw", "about", "(LOutletOffice;II[J)I"⟩ ∈ TB := tb_of (i := 773) rfl rfl
set_option maxRecDepth 100000 in
theorem tw_744 : Cond.codeWith yy_Law_about bb_Law_about 5 (some .int) [((0 : Nat), (10 : Nat), (13 : Nat), (13 : Nat)), ((0 : Nat), (10 : Nat), (17 : Nat), (15 : Nat))] ∈ TB := tb_of (i := 774) rfl rfl
set_option maxRecDepth 100000 in
theorem tw_745 : Cond.methodLink "OutletOfficeLaw" 73 ⟨"OutletOffice", "about", "(II)I"⟩ ∈ TB := tb_of (i := 775) rfl rfl
set_option maxRecDepth 100000 in
theorem tw_746 : Cond.instanceMethod ⟨"OutletOffice", "about", "(II)I"⟩ ∈ TB := tb_of (i := 776) rfl rfl
set_option maxRecDepth 100000 in
theorem tw_747 : Cond.selects "OutletOffice" ⟨"OutletOffice", "about", "(II)I"⟩ ⟨"OutletOffice", "about", "(II)I"⟩ ∈ TB := tb_of (i := 777) rfl rfl
set_option maxRecDepth 100000 in
theorem tw_748 : Cond.code yy_Out_about bb_Out_about 4 (some .int) ∈ TB := tb_of (i := 778) rfl rfl
set_option maxRecDepth 100000 in
theorem tw_749 : Cond.methodLink "OutletOffice" 192 ⟨"OutletOffice$Car", "presence", "()I"⟩ ∈ TB := tb_of (i := 779) rfl rfl
set_option maxRecDepth 100000 in
theorem tw_750 : Cond.instanceMethod ⟨"OutletOffice$Car", "presence", "()I"⟩ ∈ TB := tb_of (i := 780) rfl rfl
set_option maxRecDepth 100000 in
theorem tw_751 : Cond.selects "OutletOffice$Car" ⟨"OutletOffice$Car", "presence", "()I"⟩ ⟨"OutletOffice$Car", "presence", "()I"⟩ ∈ TB := tb_of (i := 781) rfl rfl
set_option maxRecDepth 100000 in
theorem tw_752 : Cond.code yy_Car_presence bb_Car_presence 1 (some .int) ∈ TB := tb_of (i := 782) rfl rfl
set_option maxRecDepth 100000 in
theorem tw_753 : Cond.methodLink "OutletOfficeLaw" 159 ⟨"OutletOfficeLaw", "open", "(LOutletOffice;I[J)I"⟩ ∈ TB := tb_of (i := 783) rfl rfl
set_option maxRecDepth 100000 in
theorem tw_754 : Cond.static ⟨"OutletOfficeLaw", "open", "(LOutletOffice;I[J)I"⟩ ∈ TB := tb_of (i := 784) rfl rfl
set_option maxRecDepth 100000 in
theorem tw_755 : Cond.codeWith yy_Law_open bb_Law_open 4 (some .int) [((0 : Nat), (8 : Nat), (11 : Nat), (13 : Nat))] ∈ TB := tb_of (i := 785) rfl rfl
set_option maxRecDepth 100000 in
theorem tw_756 : Cond.methodLink "OutletOfficeLaw" 76 ⟨"OutletOffice", "open", "(I)J"⟩ ∈ TB := tb_of (i := 786) rfl rfl
set_option maxRecDepth 100000 in
theorem tw_757 : Cond.instanceMethod ⟨"OutletOffice", "open", "(I)J"⟩ ∈ TB := tb_of (i := 787) rfl rfl
set_option maxRecDepth 100000 in
theorem tw_758 : Cond.selects "OutletOffice" ⟨"OutletOffice", "open", "(I)J"⟩ ⟨"OutletOffice", "open", "(I)J"⟩ ∈ TB := tb_of (i := 788) rfl rfl
set_option maxRecDepth 100000 in
theorem tw_759 : Cond.code yy_Out_open bb_Out_open 3 (some .long) ∈ TB := tb_of (i := 789) rfl rfl
set_option maxRecDepth 100000 in
theorem tw_76 : Cond.instanceMethod ⟨"OutletOffice$Bill", "<init>", "()V"⟩ ∈ TB := tb_of (i := 106) rfl rfl
set_option maxRecDepth 100000 in
theorem tw_760 : Cond.constantLong "OutletOffice" 207 (-1) ∈ TB := tb_of (i := 790) rfl rfl
set_option maxRecDepth 100000 in
theorem tw_761 : Cond.methodLink "OutletOfficeLaw" 166 ⟨"OutletOfficeLaw", "bill", "(LOutletOffice;II[J)I"⟩ ∈ TB := tb_of (i := 791) rfl rfl
set_option maxRecDepth 100000 in
theorem tw_762 : Cond.static ⟨"OutletOfficeLaw", "bill", "(LOutletOffice;II[J)I"⟩ ∈ TB := tb_of (i := 792) rfl rfl
set_option maxRecDepth 100000 in
theorem tw_763 : Cond.codeWith yy_Law_bill bb_Law_bill 5 (some .int) [((0 : Nat), (10 : Nat), (13 : Nat), (13 : Nat)), ((0 : Nat), (10 : Nat), (17 : Nat), (15 : Nat))] ∈ TB := tb_of (i := 793) rfl rfl
set_option maxRecDepth 100000 in
theorem tw_764 : Cond.methodLink "OutletOfficeLaw" 79 ⟨"OutletOffice", "bill", "(II)I"⟩ ∈ TB := tb_of (i := 794) rfl rfl
set_option maxRecDepth 100000 in
theorem tw_765 : Cond.instanceMethod ⟨"OutletOffice", "bill", "(II)I"⟩ ∈ TB := tb_of (i := 795) rfl rfl
set_option maxRecDepth 100000 in
theorem tw_766 : Cond.selects "OutletOffice" ⟨"OutletOffice", "bill", "(II)I"⟩ ⟨"OutletOffice", "bill", "(II)I"⟩ ∈ TB := tb_of (i := 796) rfl rfl
set_option maxRecDepth 100000 in
theorem tw_767 : Cond.code yy_Out_bill bb_Out_bill 3 (some .int) ∈ TB := tb_of (i := 797) rfl rfl
set_option maxRecDepth 100000 in
theorem tw_768 : Cond.methodLink "OutletOfficeLaw" 169 ⟨"OutletOfficeLaw", "total", "(LOutletOffice;I[J)I"⟩ ∈ TB := tb_of (i := 798) rfl rfl
set_option maxRecDepth 100000 in
theorem tw_769 : Cond.static ⟨"OutletOfficeLaw", "total", "(LOutletOffice;I[J)I"⟩ ∈ TB := tb_of (i := 799) rfl rfl
set_option maxRecDepth 100000 in
theorem tw_77 : Cond.code yy_Bill_init bb_Bill_init 1 (none : Option Jvm.ClassFile.FieldType) ∈ TB := tb_of (i := 107) rfl rfl
set_option maxRecDepth 100000 in
theorem tw_770 : Cond.codeWith yy_Law_total bb_Law_total 4 (some .int) [((0 : Nat), (8 : Nat), (11 : Nat), (13 : Nat))] ∈ TB := tb_of (i := 800) rfl rfl
set_option maxRecDepth 100000 in
theorem tw_771 : Cond.methodLink "OutletOfficeLaw" 82 ⟨"OutletOffice", "total", "(I)J"⟩ ∈ TB := tb_of (i := 801) rfl rfl
set_option maxRecDepth 100000 in
theorem tw_772 : Cond.instanceMethod ⟨"OutletOffice", "total", "(I)J"⟩ ∈ TB := tb_of (i := 802) rfl rfl
set_option maxRecDepth 100000 in
theorem tw_773 : Cond.selects "OutletOffice" ⟨"OutletOffice", "total", "(I)J"⟩ ⟨"OutletOffice", "total", "(I)J"⟩ ∈ TB := tb_of (i := 803) rfl rfl
set_option maxRecDepth 100000 in
theorem tw_774 : Cond.code yy_Out_total bb_Out_total 2 (some .long) ∈ TB := tb_of (i := 804) rfl rfl
set_option maxRecDepth 100000 in
theorem tw_78 : Cond.methodLink "OutletOffice$Bill" 3 ⟨"java/lang/Object", "<init>", "()V"⟩ ∈ TB := tb_of (i := 108) rfl rfl
set_option maxRecDepth 100000 in
theorem tw_780 : Cond.methodLink "OutletOfficeModel" 1 ⟨"java/lang/Object", "<init>", "()V"⟩ ∈ TB := tb_of (i := 810) rfl rfl
set_option maxRecDepth 100000 in
theorem tw_781 : Cond.fieldLink "OutletOfficeModel" 114 "OutletOfficeModel" "thrown" "I" ∈ TB := tb_of (i := 811) rfl rfl
set_option maxRecDepth 100000 in
theorem tw_782 : Cond.fieldLink "OutletOfficeModel" 144 "OutletOfficeModel" "time" "I" ∈ TB := tb_of (i := 812) rfl rfl
set_option maxRecDepth 100000 in
theorem tw_783 : Cond.fieldLink "OutletOfficeModel" 7 "OutletOfficeModel" "limits" "[I" ∈ TB := tb_of (i := 813) rfl rfl
set_option maxRecDepth 100000 in
theorem tw_784 : Cond.fieldLink "OutletOfficeModel" 13 "OutletOfficeModel" "minutes" "[I" ∈ TB := tb_of (i := 814) rfl rfl
set_option maxRecDepth 100000 in
theorem tw_785 : Cond.fieldLink "OutletOfficeModel" 16 "OutletOfficeModel" "prices" "[I" ∈ TB := tb_of (i := 815) rfl rfl
set_option maxRecDepth 100000 in
theorem tw_786 : Cond.fieldLink "OutletOfficeModel" 128 "OutletOfficeModel" "startFee" "I" ∈ TB := tb_of (i := 816) rfl rfl
set_option maxRecDepth 100000 in
theorem tw_787 : Cond.fieldLink "OutletOfficeModel" 131 "OutletOfficeModel" "idleFee" "I" ∈ TB := tb_of (i := 817) rfl rfl
set_option maxRecDepth 100000 in
theorem tw_788 : Cond.fieldLink "OutletOfficeModel" 19 "OutletOfficeModel" "status" "[I" ∈ TB := tb_of (i := 818) rfl rfl
set_option maxRecDepth 100000 in
theorem tw_789 : Cond.fieldLink "OutletOfficeModel" 22 "OutletOfficeModel" "group" "[I" ∈ TB := tb_of (i := 819) rfl rfl
set_option maxRecDepth 100000 in
theorem tw_79 : Cond.fieldLink "OutletOffice$Bill" 9 "OutletOffice$Bill" "isOpen" "Z" ∈ TB := tb_of (i := 109) rfl rfl
set_option maxRecDepth 100000 in
theorem tw_790 : Cond.fieldLink "OutletOfficeModel" 25 "OutletOfficeModel" "power" "[Z" ∈ TB := tb_of (i := 820) rfl rfl
set_option maxRecDepth 100000 in
theorem tw_791 : Cond.fieldLink "OutletOfficeModel" 29 "OutletOfficeModel" "line" "[Z" ∈ TB := tb_of (i := 821) rfl rfl
set_option maxRecDepth 100000 in
theorem tw_792 : Cond.fieldLink "OutletOfficeModel" 32 "OutletOfficeModel" "meter" "[J" ∈ TB := tb_of (i := 822) rfl rfl
set_option maxRecDepth 100000 in
theorem tw_793 : Cond.fieldLink "OutletOfficeModel" 36 "OutletOfficeModel" "session" "[I" ∈ TB := tb_of (i := 823) rfl rfl
set_option maxRecDepth 100000 in
theorem tw_794 : Cond.fieldLink "OutletOfficeModel" 39 "OutletOfficeModel" "sessions" "[I" ∈ TB := tb_of (i := 824) rfl rfl
set_option maxRecDepth 100000 in
theorem tw_795 : Cond.fieldLink "OutletOfficeModel" 42 "OutletOfficeModel" "sessionCard" "[I" ∈ TB := tb_of (i := 825) rfl rfl
set_option maxRecDepth 100000 in
theorem tw_796 : Cond.fieldLink "OutletOfficeModel" 45 "OutletOfficeModel" "many" "[I" ∈ TB := tb_of (i := 826) rfl rfl
set_option maxRecDepth 100000 in
theorem tw_797 : Cond.fieldLink "OutletOfficeModel" 48 "OutletOfficeModel" "nextNumber" "[I" ∈ TB := tb_of (i := 827) rfl rfl
set_option maxRecDepth 100000 in
theorem tw_798 : Cond.fieldLink "OutletOfficeModel" 51 "OutletOfficeModel" "sentAt" "[I" ∈ TB := tb_of (i := 828) rfl rfl
set_option maxRecDepth 100000 in
theorem tw_799 : Cond.fieldLink "OutletOfficeModel" 54 "OutletOfficeModel" "underWay" "[I" ∈ TB := tb_of (i := 829) rfl rfl
set_option maxRecDepth 100000 in
theorem tw_8 : Cond.initialized "OutletOffice$Car" ∈ TB := tb_of (i := 38) rfl rfl
set_option maxRecDepth 100000 in
theorem tw_80 : Cond.fieldLink "OutletOffice$Office" 83 "OutletOffice$Bill" "isOpen" "Z" ∈ TB := tb_of (i := 110) rfl rfl
set_option maxRecDepth 100000 in
theorem tw_800 : Cond.fieldLink "OutletOfficeModel" 57 "OutletOfficeModel" "messages" "[I" ∈ TB := tb_of (i := 830) rfl rfl
set_option maxRecDepth 100000 in
theorem tw_801 : Cond.fieldLink "OutletOfficeModel" 60 "OutletOfficeModel" "hours" "[J" ∈ TB := tb_of (i := 831) rfl rfl
set_option maxRecDepth 100000 in
theorem tw_802 : Cond.fieldLink "OutletOfficeModel" 63 "OutletOfficeModel" "car" "[Z" ∈ TB := tb_of (i := 832) rfl rfl
set_option maxRecDepth 100000 in
theorem tw_803 : Cond.fieldLink "OutletOfficeModel" 66 "OutletOfficeModel" "wants" "[I" ∈ TB := tb_of (i := 833) rfl rfl
set_option maxRecDepth 100000 in
theorem tw_804 : Cond.fieldLink "OutletOfficeModel" 69 "OutletOfficeModel" "weight" "[I" ∈ TB := tb_of (i := 834) rfl rfl
set_option maxRecDepth 100000 in
theorem tw_805 : Cond.fieldLink "OutletOfficeModel" 72 "OutletOfficeModel" "hunger" "[J" ∈ TB := tb_of (i := 835) rfl rfl
set_option maxRecDepth 100000 in
theorem tw_806 : Cond.fieldLink "OutletOfficeModel" 75 "OutletOfficeModel" "full" "[Z" ∈ TB := tb_of (i := 836) rfl rfl
set_option maxRecDepth 100000 in
theorem tw_807 : Cond.fieldLink "OutletOfficeModel" 78 "OutletOfficeModel" "fullAt" "[I" ∈ TB := tb_of (i := 837) rfl rfl
set_option maxRecDepth 100000 in
theorem tw_808 : Cond.fieldLink "OutletOfficeModel" 81 "OutletOfficeModel" "taken" "[I" ∈ TB := tb_of (i := 838) rfl rfl
set_option maxRecDepth 100000 in
theorem tw_809 : Cond.fieldLink "OutletOfficeModel" 84 "OutletOfficeModel" "open" "[Z" ∈ TB := tb_of (i := 839) rfl rfl
set_option maxRecDepth 100000 in
theorem tw_81 : Cond.fieldLink "OutletOffice" 199 "OutletOffice$Bill" "isOpen" "Z" ∈ TB := tb_of (i := 111) rfl rfl
set_option maxRecDepth 100000 in
theorem tw_810 : Cond.fieldLink "OutletOfficeModel" 87 "OutletOfficeModel" "billSession" "[I" ∈ TB := tb_of (i := 840) rfl rfl
set_option maxRecDepth 100000 in
theorem tw_811 : Cond.fieldLink "OutletOfficeModel" 90 "OutletOfficeModel" "billCard" "[I" ∈ TB := tb_of (i := 841) rfl rfl
set_option maxRecDepth 100000 in
theorem tw_812 : Cond.fieldLink "OutletOfficeModel" 93 "OutletOfficeModel" "billSum" "[J" ∈ TB := tb_of (i := 842) rfl rfl
set_option maxRecDepth 100000 in
theorem tw_813 : Cond.fieldLink "OutletOfficeModel" 96 "OutletOfficeModel" "billHours" "[J" ∈ TB := tb_of (i := 843) rfl rfl
set_option maxRecDepth 100000 in
theorem tw_814 : Cond.fieldLink "OutletOfficeModel" 99 "OutletOfficeModel" "billFirst" "[J" ∈ TB := tb_of (i := 844) rfl rfl
set_option maxRecDepth 100000 in
theorem tw_815 : Cond.fieldLink "OutletOfficeModel" 102 "OutletOfficeModel" "billTime" "[I" ∈ TB := tb_of (i := 845) rfl rfl
set_option maxRecDepth 100000 in
theorem tw_816 : Cond.fieldLink "OutletOfficeModel" 172 "OutletOfficeModel" "bills" "I" ∈ TB := tb_of (i := 846) rfl rfl
set_option maxRecDepth 100000 in
theorem tw_817 : Cond.fieldLink "OutletOfficeModel" 105 "OutletOfficeModel" "closed" "[I" ∈ TB := tb_of (i := 847) rfl rfl
set_option maxRecDepth 100000 in
theorem tw_818 : Cond.fieldLink "OutletOfficeModel" 108 "OutletOfficeModel" "totals" "[J" ∈ TB := tb_of (i := 848) rfl rfl
set_option maxRecDepth 100000 in
theorem tw_819 : Cond.fieldLink "OutletOfficeModel" 111 "OutletOfficeModel" "currents" "[I" ∈ TB := tb_of (i := 849) rfl rfl
set_option maxRecDepth 100000 in
theorem tw_82 : Cond.fieldLink "OutletOffice$Bill" 15 "OutletOffice$Bill" "session" "I" ∈ TB := tb_of (i := 112) rfl rfl
set_option maxRecDepth 100000 in
theorem tw_820 : Cond.fieldLink "OutletOfficeModel" 122 "OutletOfficeModel" "known" "Z" ∈ TB := tb_of (i := 850) rfl rfl
set_option maxRecDepth 100000 in
theorem tw_83 : Cond.fieldLink "OutletOffice$Office" 94 "OutletOffice$Bill" "session" "I" ∈ TB := tb_of (i := 113) rfl rfl
set_option maxRecDepth 100000 in
theorem tw_84 : Cond.fieldLink "OutletOffice$Bill" 19 "OutletOffice$Bill" "card" "I" ∈ TB := tb_of (i := 114) rfl rfl
set_option maxRecDepth 100000 in
theorem tw_85 : Cond.fieldLink "OutletOffice$Office" 87 "OutletOffice$Bill" "card" "I" ∈ TB := tb_of (i := 115) rfl rfl
set_option maxRecDepth 100000 in
theorem tw_86 : Cond.fieldLink "OutletOffice$Bill" 22 "OutletOffice$Bill" "sum" "J" ∈ TB := tb_of (i := 116) rfl rfl
set_option maxRecDepth 100000 in
theorem tw_87 : Cond.fieldLink "OutletOffice$Office" 69 "OutletOffice$Bill" "sum" "J" ∈ TB := tb_of (i := 117) rfl rfl
set_option maxRecDepth 100000 in
theorem tw_88 : Cond.fieldLink "OutletOffice" 204 "OutletOffice$Bill" "sum" "J" ∈ TB := tb_of (i := 118) rfl rfl
set_option maxRecDepth 100000 in
theorem tw_89 : Cond.fieldLink "OutletOffice$Bill" 26 "OutletOffice$Bill" "firstWattHours" "I" ∈ TB := tb_of (i := 119) rfl rfl
set_option maxRecDepth 100000 in
theorem tw_9 : Cond.initialized "OutletOffice$Queue" ∈ TB := tb_of (i := 39) rfl rfl
set_option maxRecDepth 100000 in
theorem tw_90 : Cond.fieldLink "OutletOffice$Office" 100 "OutletOffice$Bill" "firstWattHours" "I" ∈ TB := tb_of (i := 120) rfl rfl
set_option maxRecDepth 100000 in
theorem tw_902 : Cond.arrayClass .boolean ∈ TB := tb_of (i := 932) rfl rfl
set_option maxRecDepth 100000 in
theorem tw_903 : Cond.methodLink "OutletOfficeLaw" 95 ⟨"OutletOfficeModel", "thrown", "()I"⟩ ∈ TB := tb_of (i := 933) rfl rfl
set_option maxRecDepth 100000 in
theorem tw_904 : Cond.instanceMethod ⟨"OutletOfficeModel", "thrown", "()I"⟩ ∈ TB := tb_of (i := 934) rfl rfl
set_option maxRecDepth 100000 in
theorem tw_905 : Cond.selects "OutletOfficeModel" ⟨"OutletOfficeModel", "thrown", "()I"⟩ ⟨"OutletOfficeModel", "thrown", "()I"⟩ ∈ TB := tb_of (i := 935) rfl rfl
set_option maxRecDepth 100000 in
theorem tw_906 : Cond.code yy_M_thrown bb_M_thrown 1 (some .int) ∈ TB := tb_of (i := 936) rfl rfl
set_option maxRecDepth 100000 in
theorem tw_907 : Cond.methodLink "OutletOfficeLaw" 94 ⟨"OutletOfficeModel", "limit", "(II)V"⟩ ∈ TB := tb_of (i := 937) rfl rfl
set_option maxRecDepth 100000 in
theorem tw_908 : Cond.instanceMethod ⟨"OutletOfficeModel", "limit", "(II)V"⟩ ∈ TB := tb_of (i := 938) rfl rfl
set_option maxRecDepth 100000 in
theorem tw_909 : Cond.selects "OutletOfficeModel" ⟨"OutletOfficeModel", "limit", "(II)V"⟩ ⟨"OutletOfficeModel", "limit", "(II)V"⟩ ∈ TB := tb_of (i := 939) rfl rfl
set_option maxRecDepth 100000 in
theorem tw_91 : Cond.fieldLink "OutletOffice$Bill" 29 "OutletOffice$Bill" "wattHours" "I" ∈ TB := tb_of (i := 121) rfl rfl
set_option maxRecDepth 100000 in
theorem tw_910 : Cond.code yy_M_limit bb_M_limit 3 (none : Option Jvm.ClassFile.FieldType) ∈ TB := tb_of (i := 940) rfl rfl
set_option maxRecDepth 100000 in
theorem tw_911 : Cond.methodLink "OutletOfficeModel" 118 ⟨"OutletOfficeModel", "isIn", "(III)Z"⟩ ∈ TB := tb_of (i := 941) rfl rfl
set_option maxRecDepth 100000 in
theorem tw_912 : Cond.static ⟨"OutletOfficeModel", "isIn", "(III)Z"⟩ ∈ TB := tb_of (i := 942) rfl rfl
set_option maxRecDepth 100000 in
theorem tw_913 : Cond.code yy_M_isIn bb_M_isIn 3 (some .boolean) ∈ TB := tb_of (i := 943) rfl rfl
set_option maxRecDepth 100000 in
theorem tw_914 : Cond.methodLink "OutletOfficeLaw" 102 ⟨"OutletOfficeModel", "band", "(III)V"⟩ ∈ TB := tb_of (i := 944) rfl rfl
set_option maxRecDepth 100000 in
theorem tw_915 : Cond.instanceMethod ⟨"OutletOfficeModel", "band", "(III)V"⟩ ∈ TB := tb_of (i := 945) rfl rfl
set_option maxRecDepth 100000 in
theorem tw_916 : Cond.selects "OutletOfficeModel" ⟨"OutletOfficeModel", "band", "(III)V"⟩ ⟨"OutletOfficeModel", "band", "(III)V"⟩ ∈ TB := tb_of (i := 946) rfl rfl
set_option maxRecDepth 100000 in
theorem tw_917 : Cond.code yy_M_band bb_M_band 4 (none : Option Jvm.ClassFile.FieldType) ∈ TB := tb_of (i := 947) rfl rfl
set_option maxRecDepth 100000 in
theorem tw_918 : Cond.constant "OutletOfficeModel" 126 100000 ∈ TB := tb_of (i := 948) rfl rfl
set_option maxRecDepth 100000 in
theorem tw_919 : Cond.methodLink "OutletOfficeLaw" 105 ⟨"OutletOfficeModel", "fees", "(II)V"⟩ ∈ TB := tb_of (i := 949) rfl rfl
set_option maxRecDepth 100000 in
theorem tw_92 : Cond.fieldLink "OutletOffice$Office" 97 "OutletOffice$Bill" "wattHours" "I" ∈ TB := tb_of (i := 122) rfl rfl
set_option maxRecDepth 100000 in
theorem tw_920 : Cond.instanceMethod ⟨"OutletOfficeModel", "fees", "(II)V"⟩ ∈ TB := tb_of (i := 950) rfl rfl
set_option maxRecDepth 100000 in
theorem tw_921 : Cond.selects "OutletOfficeModel" ⟨"OutletOfficeModel", "fees", "(II)V"⟩ ⟨"OutletOfficeModel", "fees", "(II)V"⟩ ∈ TB := tb_of (i := 951) rfl rfl
set_option maxRecDepth 100000 in
theorem tw_922 : Cond.code yy_M_fees bb_M_fees 3 (none : Option Jvm.ClassFile.FieldType) ∈ TB := tb_of (i := 952) rfl rfl
set_option maxRecDepth 100000 in
theorem tw_923 : Cond.constant "OutletOfficeModel" 127 1000000 ∈ TB := tb_of (i := 953) rfl rfl
set_option maxRecDepth 100000 in
theorem tw_924 : Cond.methodLink "OutletOfficeLaw" 108 ⟨"OutletOfficeModel", "card", "(III)V"⟩ ∈ TB := tb_of (i := 954) rfl rfl
set_option maxRecDepth 100000 in
theorem tw_925 : Cond.instanceMethod ⟨"OutletOfficeModel", "card", "(III)V"⟩ ∈ TB := tb_of (i := 955) rfl rfl
set_option maxRecDepth 100000 in
theorem tw_926 : Cond.selects "OutletOfficeModel" ⟨"OutletOfficeModel", "card", "(III)V"⟩ ⟨"OutletOfficeModel", "card", "(III)V"⟩ ∈ TB := tb_of (i := 956) rfl rfl
set_option maxRecDepth 100000 in
theorem tw_927 : Cond.code yy_M_card bb_M_card 4 (none : Option Jvm.ClassFile.FieldType) ∈ TB := tb_of (i := 957) rfl rfl
set_option maxRecDepth 100000 in
theorem tw_928 : Cond.methodLink "OutletOfficeLaw" 112 ⟨"OutletOfficeModel", "copy", "(I)Z"⟩ ∈ TB := tb_of (i := 958) rfl rfl
set_option maxRecDepth 100000 in
theorem tw_929 : Cond.instanceMethod ⟨"OutletOfficeModel", "copy", "(I)Z"⟩ ∈ TB := tb_of (i := 959) rfl rfl
set_option maxRecDepth 100000 in
theorem tw_93 : Cond.fieldLink "OutletOffice$Bill" 32 "OutletOffice$Bill" "time" "I" ∈ TB := tb_of (i := 123) rfl rfl
set_option maxRecDepth 100000 in
theorem tw_930 : Cond.selects "OutletOfficeModel" ⟨"OutletOfficeModel", "copy", "(I)Z"⟩ ⟨"OutletOfficeModel", "copy", "(I)Z"⟩ ∈ TB := tb_of (i := 960) rfl rfl
set_option maxRecDepth 100000 in
theorem tw_931 : Cond.code yy_M_copy bb_M_copy 3 (some .boolean) ∈ TB := tb_of (i := 961) rfl rfl
set_option maxRecDepth 100000 in
theorem tw_932 : Cond.methodLink "OutletOfficeModel" 134 ⟨"OutletOfficeModel", "noPoint", "(I)Z"⟩ ∈ TB := tb_of (i := 962) rfl rfl
set_option maxRecDepth 100000 in
theorem tw_934 : Cond.instanceMethod ⟨"OutletOfficeModel", "noPoint", "(I)Z"⟩ ∈ TB := tb_of (i := 964) rfl rfl
set_option maxRecDepth 100000 in
theorem tw_935 : Cond.code yy_M_noPoint bb_M_noPoint 2 (some .boolean) ∈ TB := tb_of (i := 965) rfl rfl
set_option maxRecDepth 100000 in
theorem tw_936 : Cond.methodLink "OutletOfficeLaw" 116 ⟨"OutletOfficeModel", "car", "(IIII)Z"⟩ ∈ TB := tb_of (i := 966) rfl rfl
set_option maxRecDepth 100000 in
theorem tw_937 : Cond.instanceMethod ⟨"OutletOfficeModel", "car", "(IIII)Z"⟩ ∈ TB := tb_of (i := 967) rfl rfl
set_option maxRecDepth 100000 in
theorem tw_938 : Cond.selects "OutletOfficeModel" ⟨"OutletOfficeModel", "car", "(IIII)Z"⟩ ⟨"OutletOfficeModel", "car", "(IIII)Z"⟩ ∈ TB := tb_of (i := 968) rfl rfl
set_option maxRecDepth 100000 in
theorem tw_939 : Cond.code yy_M_car bb_M_car 6 (some .boolean) ∈ TB := tb_of (i := 969) rfl rfl
set_option maxRecDepth 100000 in
theorem tw_94 : Cond.fieldLink "OutletOffice$Office" 59 "OutletOffice$Bill" "time" "I" ∈ TB := tb_of (i := 124) rfl rfl
set_option maxRecDepth 100000 in
theorem tw_940 : Cond.constantLong "OutletOfficeModel" 138 3600 ∈ TB := tb_of (i := 970) rfl rfl
set_option maxRecDepth 100000 in
theorem tw_941 : Cond.methodLink "OutletOfficeLaw" 120 ⟨"OutletOfficeModel", "want", "(II)Z"⟩ ∈ TB := tb_of (i := 971) rfl rfl
set_option maxRecDepth 100000 in
theorem tw_942 : Cond.instanceMethod ⟨"OutletOfficeModel", "want", "(II)Z"⟩ ∈ TB := tb_of (i := 972) rfl rfl
set_option maxRecDepth 100000 in
theorem tw_943 : Cond.selects "OutletOfficeModel" ⟨"OutletOfficeModel", "want", "(II)Z"⟩ ⟨"OutletOfficeModel", "want", "(II)Z"⟩ ∈ TB := tb_of (i := 973) rfl rfl
set_option maxRecDepth 100000 in
theorem tw_944 : Cond.code yy_M_want bb_M_want 3 (some .boolean) ∈ TB := tb_of (i := 974) rfl rfl
set_option maxRecDepth 100000 in
theorem tw_945 : Cond.methodLink "OutletOfficeLaw" 123 ⟨"OutletOfficeModel", "leave", "(I)Z"⟩ ∈ TB := tb_of (i := 975) rfl rfl
set_option maxRecDepth 100000 in
theorem tw_946 : Cond.instanceMethod ⟨"OutletOfficeModel", "leave", "(I)Z"⟩ ∈ TB := tb_of (i := 976) rfl rfl
set_option maxRecDepth 100000 in
theorem tw_947 : Cond.selects "OutletOfficeModel" ⟨"OutletOfficeModel", "leave", "(I)Z"⟩ ⟨"OutletOfficeModel", "leave", "(I)Z"⟩ ∈ TB := tb_of (i := 977) rfl rfl
set_option maxRecDepth 100000 in
theorem tw_948 : Cond.code yy_M_leave bb_M_leave 2 (some .boolean) ∈ TB := tb_of (i := 978) rfl rfl
set_option maxRecDepth 100000 in
theorem tw_949 : Cond.methodLink "OutletOfficeModel" 151 ⟨"OutletOfficeModel", "runs", "(I)Z"⟩ ∈ TB := tb_of (i := 979) rfl rfl
set_option maxRecDepth 100000 in
theorem tw_951 : Cond.instanceMethod ⟨"OutletOfficeModel", "runs", "(I)Z"⟩ ∈ TB := tb_of (i := 981) rfl rfl
set_option maxRecDepth 100000 in
theorem tw_952 : Cond.code yy_M_runs bb_M_runs 2 (some .boolean) ∈ TB := tb_of (i := 982) rfl rfl
set_option maxRecDepth 100000 in
theorem tw_953 : Cond.methodLink "OutletOfficeModel" 154 ⟨"OutletOfficeModel", "idle", "(I)I"⟩ ∈ TB := tb_of (i := 983) rfl rfl
set_option maxRecDepth 100000 in
theorem tw_955 : Cond.instanceMethod ⟨"OutletOfficeModel", "idle", "(I)I"⟩ ∈ TB := tb_of (i := 985) rfl rfl
set_option maxRecDepth 100000 in
theorem tw_956 : Cond.code yy_M_idle bb_M_idle 2 (some .int) ∈ TB := tb_of (i := 986) rfl rfl
set_option maxRecDepth 100000 in
theorem tw_957 : Cond.methodLink "OutletOfficeModel" 158 ⟨"OutletOfficeModel", "ends", "(II)V"⟩ ∈ TB := tb_of (i := 987) rfl rfl
set_option maxRecDepth 100000 in
theorem tw_959 : Cond.instanceMethod ⟨"OutletOfficeModel", "ends", "(II)V"⟩ ∈ TB := tb_of (i := 989) rfl rfl
set_option maxRecDepth 100000 in
theorem tw_960 : Cond.code yy_M_ends bb_M_ends 3 (none : Option Jvm.ClassFile.FieldType) ∈ TB := tb_of (i := 990) rfl rfl
set_option maxRecDepth 100000 in
theorem tw_961 : Cond.methodLink "OutletOfficeModel" 147 ⟨"OutletOfficeModel", "put", "(III)V"⟩ ∈ TB := tb_of (i := 991) rfl rfl
set_option maxRecDepth 100000 in
theorem tw_963 : Cond.instanceMethod ⟨"OutletOfficeModel", "put", "(III)V"⟩ ∈ TB := tb_of (i := 993) rfl rfl
set_option maxRecDepth 100000 in
theorem tw_964 : Cond.code yy_M_put bb_M_put 5 (none : Option Jvm.ClassFile.FieldType) ∈ TB := tb_of (i := 994) rfl rfl
set_option maxRecDepth 100000 in
theorem tw_965 : Cond.methodLink "OutletOfficeModel" 140 ⟨"OutletOfficeModel", "cell", "(II)I"⟩ ∈ TB := tb_of (i := 995) rfl rfl
set_option maxRecDepth 100000 in
theorem tw_966 : Cond.static ⟨"OutletOfficeModel", "cell", "(II)I"⟩ ∈ TB := tb_of (i := 996) rfl rfl
set_option maxRecDepth 100000 in
theorem tw_967 : Cond.code yy_M_cell bb_M_cell 2 (some .int) ∈ TB := tb_of (i := 997) rfl rfl
set_option maxRecDepth 100000 in
theorem tw_968 : Cond.methodLink "OutletOfficeLaw" 126 ⟨"OutletOfficeModel", "show", "(II)I"⟩ ∈ TB := tb_of (i := 998) rfl rfl
set_option maxRecDepth 100000 in
theorem tw_969 : Cond.instanceMethod ⟨"OutletOfficeModel", "show", "(II)I"⟩ ∈ TB := tb_of (i := 999) rfl rfl
set_option maxRecDepth 100000 in
theorem tw_970 : Cond.selects "OutletOfficeModel" ⟨"OutletOfficeModel", "show", "(II)I"⟩ ⟨"OutletOfficeModel", "show", "(II)I"⟩ ∈ TB := tb_of (i := 1000) rfl rfl
set_option maxRecDepth 100000 in
theorem tw_971 : Cond.code yy_M_show bb_M_show 6 (some .int) ∈ TB := tb_of (i := 1001) rfl rfl
set_option maxRecDepth 100000 in
theorem tw_972 : Cond.methodLink "OutletOfficeModel" 162 ⟨"OutletOfficeModel", "list", "(I)I"⟩ ∈ TB := tb_of (i := 1002) rfl rfl
set_option maxRecDepth 100000 in
theorem tw_974 : Cond.instanceMethod ⟨"OutletOfficeModel", "list", "(I)I"⟩ ∈ TB := tb_of (i := 1004) rfl rfl
set_option maxRecDepth 100000 in
theorem tw_975 : Cond.code yy_M_list bb_M_list 2 (some .int) ∈ TB := tb_of (i := 1005) rfl rfl
set_option maxRecDepth 100000 in
theorem tw_976 : Cond.methodLink "OutletOfficeLaw" 130 ⟨"OutletOfficeModel", "line", "(IZ)V"⟩ ∈ TB := tb_of (i := 1006) rfl rfl
set_option maxRecDepth 100000 in
theorem tw_977 : Cond.instanceMethod ⟨"OutletOfficeModel", "line", "(IZ)V"⟩ ∈ TB := tb_of (i := 1007) rfl rfl
set_option maxRecDepth 100000 in
theorem tw_978 : Cond.selects "OutletOfficeModel" ⟨"OutletOfficeModel", "line", "(IZ)V"⟩ ⟨"OutletOfficeModel", "line", "(IZ)V"⟩ ∈ TB := tb_of (i := 1008) rfl rfl
set_option maxRecDepth 100000 in
theorem tw_979 : Cond.code yy_M_line bb_M_line 3 (none : Option Jvm.ClassFile.FieldType) ∈ TB := tb_of (i := 1009) rfl rfl
set_option maxRecDepth 100000 in
theorem tw_980 : Cond.methodLink "OutletOfficeLaw" 133 ⟨"OutletOfficeModel", "power", "(IZ)V"⟩ ∈ TB := tb_of (i := 1010) rfl rfl
set_option maxRecDepth 100000 in
theorem tw_981 : Cond.instanceMethod ⟨"OutletOfficeModel", "power", "(IZ)V"⟩ ∈ TB := tb_of (i := 1011) rfl rfl
set_option maxRecDepth 100000 in
theorem tw_982 : Cond.selects "OutletOfficeModel" ⟨"OutletOfficeModel", "power", "(IZ)V"⟩ ⟨"OutletOfficeModel", "power", "(IZ)V"⟩ ∈ TB := tb_of (i := 1012) rfl rfl
set_option maxRecDepth 100000 in
theorem tw_983 : Cond.code yy_M_power bb_M_power 4 (none : Option Jvm.ClassFile.FieldType) ∈ TB := tb_of (i := 1013) rfl rfl
set_option maxRecDepth 100000 in
theorem tw_984 : Cond.methodLink "OutletOfficeLaw" 136 ⟨"OutletOfficeModel", "carry", "(I)I"⟩ ∈ TB := tb_of (i := 1014) rfl rfl
set_option maxRecDepth 100000 in
theorem tw_985 : Cond.instanceMethod ⟨"OutletOfficeModel", "carry", "(I)I"⟩ ∈ TB := tb_of (i := 1015) rfl rfl
set_option maxRecDepth 100000 in
theorem tw_986 : Cond.selects "OutletOfficeModel" ⟨"OutletOfficeModel", "carry", "(I)I"⟩ ⟨"OutletOfficeModel", "carry", "(I)I"⟩ ∈ TB := tb_of (i := 1016) rfl rfl
set_option maxRecDepth 100000 in
theorem tw_987 : Cond.code yy_M_carry bb_M_carry 3 (some .int) ∈ TB := tb_of (i := 1017) rfl rfl
set_option maxRecDepth 100000 in
theorem tw_988 : Cond.methodLink "OutletOfficeModel" 183 ⟨"OutletOfficeModel", "takeIn", "(I)V"⟩ ∈ TB := tb_of (i := 1018) rfl rfl
set_option maxRecDepth 100000 in
theorem tw_990 : Cond.instanceMethod ⟨"OutletOfficeModel", "takeIn", "(I)V"⟩ ∈ TB := tb_of (i := 1020) rfl rfl
set_option maxRecDepth 100000 in
theorem tw_991 : Cond.code yy_M_takeIn bb_M_takeIn 5 (none : Option Jvm.ClassFile.FieldType) ∈ TB := tb_of (i := 1021) rfl rfl
set_option maxRecDepth 100000 in
theorem tw_992 : Cond.methodLink "OutletOfficeModel" 175 ⟨"OutletOfficeModel", "charge", "(IJI)V"⟩ ∈ TB := tb_of (i := 1022) rfl rfl
set_option maxRecDepth 100000 in
theorem tw_994 : Cond.instanceMethod ⟨"OutletOfficeModel", "charge", "(IJI)V"⟩ ∈ TB := tb_of (i := 1024) rfl rfl
set_option maxRecDepth 100000 in
theorem tw_995 : Cond.code yy_M_charge bb_M_charge 5 (none : Option Jvm.ClassFile.FieldType) ∈ TB := tb_of (i := 1025) rfl rfl
set_option maxRecDepth 100000 in
theorem tw_996 : Cond.methodLink "OutletOfficeModel" 165 ⟨"OutletOfficeModel", "priceAt", "(I)I"⟩ ∈ TB := tb_of (i := 1026) rfl rfl
set_option maxRecDepth 100000 in
theorem tw_998 : Cond.instanceMethod ⟨"OutletOfficeModel", "priceAt", "(I)I"⟩ ∈ TB := tb_of (i := 1028) rfl rfl
set_option maxRecDepth 100000 in
theorem tw_999 : Cond.code yy_M_priceAt bb_M_priceAt 6 (some .int) ∈ TB := tb_of (i := 1029) rfl rfl
