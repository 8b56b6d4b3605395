/-! names: the classes' fields in my order, the blocks' layouts -/
/-- the tables' words that stay true -/
def TB : List Cond := lw_tbl.filter goodWord
theorem tb_of {w : Cond} {i : Nat} (h : lw_tbl[i]? = some w) (g : goodWord w = true) : w ∈ TB := List.mem_filter.mpr ⟨List.mem_of_getElem? h, g⟩
theorem tb_in {w k : Cond} (h : w ∈ TB) : w ∈ k :: TB := List.mem_cons_of_mem _ h
theorem tb_good {w : Cond} (h : w ∈ TB) : goodWord w = true := (List.mem_filter.mp h).2
theorem tb_all {k w : Cond} (h : w ∈ TB) : w ∈ k :: TB ∧ ((w.onTables && w.keeps) = true ∨ ∃ ty, w = .arrayClass ty) := ⟨tb_in h, good_of_word (tb_good h)⟩
def F_0 : u_T := fun k => match k with
  | 0 => ("OutletOffice", "sites", "[LOutletOffice$Site;", true)
  | 1 => ("OutletOffice", "office", "LOutletOffice$Office;", true)
  | _ => ("OutletOffice", "now", "I", false)
def F_ty_0 : Nat → FieldType := fun k => match k with
  | 0 => .array (.object "OutletOffice$Site")
  | 1 => .object "OutletOffice$Office"
  | 2 => .int
  | _ => .int
theorem F_nm_0 : ∀ a, a < 3 → ∀ b, b < 3 → a ≠ b → (F_0 a).2.1 ≠ (F_0 b).2.1 := by decide +kernel
theorem F_tyok_0 : ∀ k, k < 3 → parseFieldDescriptor (F_0 k).2.2.1 = some (F_ty_0 k) := by decide +kernel
theorem inB_0 : ∀ w ∈ u_ws "OutletOffice" F_0 3, w ∈ lw_tbl ∧ goodWord w = true := by decide +kernel
theorem in_0 {k : Cond} : ∀ w ∈ u_ws "OutletOffice" F_0 3, w ∈ k :: TB := fun w h => tb_in (List.mem_filter.mpr (inB_0 w h))
def F_1 : u_T := fun k => match k with
  | 0 => ("OutletOffice$Site", "points", "[LOutletOffice$Point;", true)
  | _ => ("OutletOffice$Site", "limit", "I", false)
def F_ty_1 : Nat → FieldType := fun k => match k with
  | 0 => .array (.object "OutletOffice$Point")
  | 1 => .int
  | _ => .int
theorem F_nm_1 : ∀ a, a < 2 → ∀ b, b < 2 → a ≠ b → (F_1 a).2.1 ≠ (F_1 b).2.1 := by decide +kernel
theorem F_tyok_1 : ∀ k, k < 2 → parseFieldDescriptor (F_1 k).2.2.1 = some (F_ty_1 k) := by decide +kernel
theorem inB_1 : ∀ w ∈ u_ws "OutletOffice$Site" F_1 2, w ∈ lw_tbl ∧ goodWord w = true := by decide +kernel
theorem in_1 {k : Cond} : ∀ w ∈ u_ws "OutletOffice$Site" F_1 2, w ∈ k :: TB := fun w h => tb_in (List.mem_filter.mpr (inB_1 w h))
def F_2 : u_T := fun k => match k with
  | 0 => ("OutletOffice$Point", "car", "LOutletOffice$Car;", true)
  | 1 => ("OutletOffice$Point", "queue", "LOutletOffice$Queue;", true)
  | 2 => ("OutletOffice$Point", "cards", "LOutletOffice$CardList;", true)
  | 3 => ("OutletOffice$Point", "power", "Z", false)
  | 4 => ("OutletOffice$Point", "line", "Z", false)
  | 5 => ("OutletOffice$Point", "wattSeconds", "J", false)
  | 6 => ("OutletOffice$Point", "session", "I", false)
  | 7 => ("OutletOffice$Point", "sessionCard", "I", false)
  | 8 => ("OutletOffice$Point", "lastSession", "I", false)
  | 9 => ("OutletOffice$Point", "underWay", "I", false)
  | 10 => ("OutletOffice$Point", "chosen", "Z", false)
  | _ => ("OutletOffice$Point", "takes", "I", false)
def F_ty_2 : Nat → FieldType := fun k => match k with
  | 0 => .object "OutletOffice$Car"
  | 1 => .object "OutletOffice$Queue"
  | 2 => .object "OutletOffice$CardList"
  | 3 => .boolean
  | 4 => .boolean
  | 5 => .long
  | 6 => .int
  | 7 => .int
  | 8 => .int
  | 9 => .int
  | 10 => .boolean
  | 11 => .int
  | _ => .int
theorem F_nm_2 : ∀ a, a < 12 → ∀ b, b < 12 → a ≠ b → (F_2 a).2.1 ≠ (F_2 b).2.1 := by decide +kernel
theorem F_tyok_2 : ∀ k, k < 12 → parseFieldDescriptor (F_2 k).2.2.1 = some (F_ty_2 k) := by decide +kernel
theorem inB_2 : ∀ w ∈ u_ws "OutletOffice$Point" F_2 12, w ∈ lw_tbl ∧ goodWord w = true := by decide +kernel
theorem in_2 {k : Cond} : ∀ w ∈ u_ws "OutletOffice$Point" F_2 12, w ∈ k :: TB := fun w h => tb_in (List.mem_filter.mpr (inB_2 w h))
def F_3 : u_T := fun k => match k with
  | 0 => ("OutletOffice$Car", "here", "Z", false)
  | 1 => ("OutletOffice$Car", "full", "Z", false)
  | 2 => ("OutletOffice$Car", "wants", "I", false)
  | 3 => ("OutletOffice$Car", "weight", "I", false)
  | 4 => ("OutletOffice$Car", "hunger", "I", false)
  | _ => ("OutletOffice$Car", "fullSince", "I", false)
def F_ty_3 : Nat → FieldType := fun k => match k with
  | 0 => .boolean
  | 1 => .boolean
  | 2 => .int
  | 3 => .int
  | 4 => .int
  | 5 => .int
  | _ => .int
theorem F_nm_3 : ∀ a, a < 6 → ∀ b, b < 6 → a ≠ b → (F_3 a).2.1 ≠ (F_3 b).2.1 := by decide +kernel
theorem F_tyok_3 : ∀ k, k < 6 → parseFieldDescriptor (F_3 k).2.2.1 = some (F_ty_3 k) := by decide +kernel
theorem inB_3 : ∀ w ∈ u_ws "OutletOffice$Car" F_3 6, w ∈ lw_tbl ∧ goodWord w = true := by decide +kernel
theorem in_3 {k : Cond} : ∀ w ∈ u_ws "OutletOffice$Car" F_3 6, w ∈ k :: TB := fun w h => tb_in (List.mem_filter.mpr (inB_3 w h))
def F_4 : u_T := fun k => match k with
  | 0 => ("OutletOffice$Queue", "rows", "[LOutletOffice$Message;", true)
  | 1 => ("OutletOffice$Queue", "head", "I", false)
  | 2 => ("OutletOffice$Queue", "nextNumber", "I", false)
  | 3 => ("OutletOffice$Queue", "size", "I", false)
  | _ => ("OutletOffice$Queue", "sentAt", "I", false)
def F_ty_4 : Nat → FieldType := fun k => match k with
  | 0 => .array (.object "OutletOffice$Message")
  | 1 => .int
  | 2 => .int
  | 3 => .int
  | 4 => .int
  | _ => .int
theorem F_nm_4 : ∀ a, a < 5 → ∀ b, b < 5 → a ≠ b → (F_4 a).2.1 ≠ (F_4 b).2.1 := by decide +kernel
theorem F_tyok_4 : ∀ k, k < 5 → parseFieldDescriptor (F_4 k).2.2.1 = some (F_ty_4 k) := by decide +kernel
theorem inB_4 : ∀ w ∈ u_ws "OutletOffice$Queue" F_4 5, w ∈ lw_tbl ∧ goodWord w = true := by decide +kernel
theorem in_4 {k : Cond} : ∀ w ∈ u_ws "OutletOffice$Queue" F_4 5, w ∈ k :: TB := fun w h => tb_in (List.mem_filter.mpr (inB_4 w h))
def F_5 : u_T := fun k => match k with
  | 0 => ("OutletOffice$Message", "kind", "I", false)
  | 1 => ("OutletOffice$Message", "session", "I", false)
  | 2 => ("OutletOffice$Message", "card", "I", false)
  | 3 => ("OutletOffice$Message", "time", "I", false)
  | 4 => ("OutletOffice$Message", "wattHours", "I", false)
  | _ => ("OutletOffice$Message", "idle", "I", false)
def F_ty_5 : Nat → FieldType := fun k => match k with
  | 0 => .int
  | 1 => .int
  | 2 => .int
  | 3 => .int
  | 4 => .int
  | 5 => .int
  | _ => .int
theorem F_nm_5 : ∀ a, a < 6 → ∀ b, b < 6 → a ≠ b → (F_5 a).2.1 ≠ (F_5 b).2.1 := by decide +kernel
theorem F_tyok_5 : ∀ k, k < 6 → parseFieldDescriptor (F_5 k).2.2.1 = some (F_ty_5 k) := by decide +kernel
theorem inB_5 : ∀ w ∈ u_ws "OutletOffice$Message" F_5 6, w ∈ lw_tbl ∧ goodWord w = true := by decide +kernel
theorem in_5 {k : Cond} : ∀ w ∈ u_ws "OutletOffice$Message" F_5 6, w ∈ k :: TB := fun w h => tb_in (List.mem_filter.mpr (inB_5 w h))
def F_6 : u_T := fun k => match k with
  | 0 => ("OutletOffice$CardList", "status", "[I", true)
  | _ => ("OutletOffice$CardList", "group", "[I", true)
def F_ty_6 : Nat → FieldType := fun k => match k with
  | 0 => .array (.int)
  | 1 => .array (.int)
  | _ => .int
theorem F_nm_6 : ∀ a, a < 2 → ∀ b, b < 2 → a ≠ b → (F_6 a).2.1 ≠ (F_6 b).2.1 := by decide +kernel
theorem F_tyok_6 : ∀ k, k < 2 → parseFieldDescriptor (F_6 k).2.2.1 = some (F_ty_6 k) := by decide +kernel
theorem inB_6 : ∀ w ∈ u_ws "OutletOffice$CardList" F_6 2, w ∈ lw_tbl ∧ goodWord w = true := by decide +kernel
theorem in_6 {k : Cond} : ∀ w ∈ u_ws "OutletOffice$CardList" F_6 2, w ∈ k :: TB := fun w h => tb_in (List.mem_filter.mpr (inB_6 w h))
def F_7 : u_T := fun k => match k with
  | 0 => ("OutletOffice$Tariff", "minutes", "[I", true)
  | 1 => ("OutletOffice$Tariff", "prices", "[I", true)
  | 2 => ("OutletOffice$Tariff", "startFee", "I", false)
  | _ => ("OutletOffice$Tariff", "idleFee", "I", false)
def F_ty_7 : Nat → FieldType := fun k => match k with
  | 0 => .array (.int)
  | 1 => .array (.int)
  | 2 => .int
  | 3 => .int
  | _ => .int
theorem F_nm_7 : ∀ a, a < 4 → ∀ b, b < 4 → a ≠ b → (F_7 a).2.1 ≠ (F_7 b).2.1 := by decide +kernel
theorem F_tyok_7 : ∀ k, k < 4 → parseFieldDescriptor (F_7 k).2.2.1 = some (F_ty_7 k) := by decide +kernel
theorem inB_7 : ∀ w ∈ u_ws "OutletOffice$Tariff" F_7 4, w ∈ lw_tbl ∧ goodWord w = true := by decide +kernel
theorem in_7 {k : Cond} : ∀ w ∈ u_ws "OutletOffice$Tariff" F_7 4, w ∈ k :: TB := fun w h => tb_in (List.mem_filter.mpr (inB_7 w h))
def F_8 : u_T := fun k => match k with
  | 0 => ("OutletOffice$Bill", "isOpen", "Z", false)
  | 1 => ("OutletOffice$Bill", "session", "I", false)
  | 2 => ("OutletOffice$Bill", "card", "I", false)
  | 3 => ("OutletOffice$Bill", "sum", "J", false)
  | 4 => ("OutletOffice$Bill", "firstWattHours", "I", false)
  | 5 => ("OutletOffice$Bill", "wattHours", "I", false)
  | _ => ("OutletOffice$Bill", "time", "I", false)
def F_ty_8 : Nat → FieldType := fun k => match k with
  | 0 => .boolean
  | 1 => .int
  | 2 => .int
  | 3 => .long
  | 4 => .int
  | 5 => .int
  | 6 => .int
  | _ => .int
theorem F_nm_8 : ∀ a, a < 7 → ∀ b, b < 7 → a ≠ b → (F_8 a).2.1 ≠ (F_8 b).2.1 := by decide +kernel
theorem F_tyok_8 : ∀ k, k < 7 → parseFieldDescriptor (F_8 k).2.2.1 = some (F_ty_8 k) := by decide +kernel
theorem inB_8 : ∀ w ∈ u_ws "OutletOffice$Bill" F_8 7, w ∈ lw_tbl ∧ goodWord w = true := by decide +kernel
theorem in_8 {k : Cond} : ∀ w ∈ u_ws "OutletOffice$Bill" F_8 7, w ∈ k :: TB := fun w h => tb_in (List.mem_filter.mpr (inB_8 w h))
def F_9 : u_T := fun k => match k with
  | 0 => ("OutletOffice$Office", "cards", "LOutletOffice$CardList;", true)
  | 1 => ("OutletOffice$Office", "tariff", "LOutletOffice$Tariff;", true)
  | 2 => ("OutletOffice$Office", "openBills", "[LOutletOffice$Bill;", true)
  | 3 => ("OutletOffice$Office", "closedRows", "[I", true)
  | 4 => ("OutletOffice$Office", "centsOfCards", "[J", true)
  | 5 => ("OutletOffice$Office", "closedCount", "I", false)
  | _ => ("OutletOffice$Office", "latestNumbers", "[I", true)
def F_ty_9 : Nat → FieldType := fun k => match k with
  | 0 => .object "OutletOffice$CardList"
  | 1 => .object "OutletOffice$Tariff"
  | 2 => .array (.object "OutletOffice$Bill")
  | 3 => .array (.int)
  | 4 => .array (.long)
  | 5 => .int
  | 6 => .array (.int)
  | _ => .int
theorem F_nm_9 : ∀ a, a < 7 → ∀ b, b < 7 → a ≠ b → (F_9 a).2.1 ≠ (F_9 b).2.1 := by decide +kernel
theorem F_tyok_9 : ∀ k, k < 7 → parseFieldDescriptor (F_9 k).2.2.1 = some (F_ty_9 k) := by decide +kernel
theorem inB_9 : ∀ w ∈ u_ws "OutletOffice$Office" F_9 7, w ∈ lw_tbl ∧ goodWord w = true := by decide +kernel
theorem in_9 {k : Cond} : ∀ w ∈ u_ws "OutletOffice$Office" F_9 7, w ∈ k :: TB := fun w h => tb_in (List.mem_filter.mpr (inB_9 w h))
def F_10 : u_T := fun k => match k with
  | 0 => ("OutletOfficeModel", "thrown", "I", false)
  | 1 => ("OutletOfficeModel", "time", "I", false)
  | 2 => ("OutletOfficeModel", "limits", "[I", true)
  | 3 => ("OutletOfficeModel", "minutes", "[I", true)
  | 4 => ("OutletOfficeModel", "prices", "[I", true)
  | 5 => ("OutletOfficeModel", "startFee", "I", false)
  | 6 => ("OutletOfficeModel", "idleFee", "I", false)
  | 7 => ("OutletOfficeModel", "status", "[I", true)
  | 8 => ("OutletOfficeModel", "group", "[I", true)
  | 9 => ("OutletOfficeModel", "power", "[Z", true)
  | 10 => ("OutletOfficeModel", "line", "[Z", true)
  | 11 => ("OutletOfficeModel", "meter", "[J", true)
  | 12 => ("OutletOfficeModel", "session", "[I", true)
  | 13 => ("OutletOfficeModel", "sessions", "[I", true)
  | 14 => ("OutletOfficeModel", "sessionCard", "[I", true)
  | 15 => ("OutletOfficeModel", "many", "[I", true)
  | 16 => ("OutletOfficeModel", "nextNumber", "[I", true)
  | 17 => ("OutletOfficeModel", "sentAt", "[I", true)
  | 18 => ("OutletOfficeModel", "underWay", "[I", true)
  | 19 => ("OutletOfficeModel", "messages", "[I", true)
  | 20 => ("OutletOfficeModel", "hours", "[J", true)
  | 21 => ("OutletOfficeModel", "car", "[Z", true)
  | 22 => ("OutletOfficeModel", "wants", "[I", true)
  | 23 => ("OutletOfficeModel", "weight", "[I", true)
  | 24 => ("OutletOfficeModel", "hunger", "[J", true)
  | 25 => ("OutletOfficeModel", "full", "[Z", true)
  | 26 => ("OutletOfficeModel", "fullAt", "[I", true)
  | 27 => ("OutletOfficeModel", "taken", "[I", true)
  | 28 => ("OutletOfficeModel", "open", "[Z", true)
  | 29 => ("OutletOfficeModel", "billSession", "[I", true)
  | 30 => ("OutletOfficeModel", "billCard", "[I", true)
  | 31 => ("OutletOfficeModel", "billSum", "[J", true)
  | 32 => ("OutletOfficeModel", "billHours", "[J", true)
  | 33 => ("OutletOfficeModel", "billFirst", "[J", true)
  | 34 => ("OutletOfficeModel", "billTime", "[I", true)
  | 35 => ("OutletOfficeModel", "bills", "I", false)
  | 36 => ("OutletOfficeModel", "closed", "[I", true)
  | 37 => ("OutletOfficeModel", "totals", "[J", true)
  | 38 => ("OutletOfficeModel", "currents", "[I", true)
  | _ => ("OutletOfficeModel", "known", "Z", false)
def F_ty_10 : Nat → FieldType := fun k => match k with
  | 0 => .int
  | 1 => .int
  | 2 => .array (.int)
  | 3 => .array (.int)
  | 4 => .array (.int)
  | 5 => .int
  | 6 => .int
  | 7 => .array (.int)
  | 8 => .array (.int)
  | 9 => .array (.boolean)
  | 10 => .array (.boolean)
  | 11 => .array (.long)
  | 12 => .array (.int)
  | 13 => .array (.int)
  | 14 => .array (.int)
  | 15 => .array (.int)
  | 16 => .array (.int)
  | 17 => .array (.int)
  | 18 => .array (.int)
  | 19 => .array (.int)
  | 20 => .array (.long)
  | 21 => .array (.boolean)
  | 22 => .array (.int)
  | 23 => .array (.int)
  | 24 => .array (.long)
  | 25 => .array (.boolean)
  | 26 => .array (.int)
  | 27 => .array (.int)
  | 28 => .array (.boolean)
  | 29 => .array (.int)
  | 30 => .array (.int)
  | 31 => .array (.long)
  | 32 => .array (.long)
  | 33 => .array (.long)
  | 34 => .array (.int)
  | 35 => .int
  | 36 => .array (.int)
  | 37 => .array (.long)
  | 38 => .array (.int)
  | 39 => .boolean
  | _ => .int
theorem F_nm_10 : ∀ a, a < 40 → ∀ b, b < 40 → a ≠ b → (F_10 a).2.1 ≠ (F_10 b).2.1 := by decide +kernel
theorem F_tyok_10 : ∀ k, k < 40 → parseFieldDescriptor (F_10 k).2.2.1 = some (F_ty_10 k) := by decide +kernel
theorem inB_10 : ∀ w ∈ u_ws "OutletOfficeModel" F_10 40, w ∈ lw_tbl ∧ goodWord w = true := by decide +kernel
theorem in_10 {k : Cond} : ∀ w ∈ u_ws "OutletOfficeModel" F_10 40, w ∈ k :: TB := fun w h => tb_in (List.mem_filter.mpr (inB_10 w h))
def CL : List vw_C := [("OutletOffice", F_0, 3), ("OutletOffice$Site", F_1, 2), ("OutletOffice$Point", F_2, 12), ("OutletOffice$Car", F_3, 6), ("OutletOffice$Queue", F_4, 5), ("OutletOffice$Message", F_5, 6), ("OutletOffice$CardList", F_6, 2), ("OutletOffice$Tariff", F_7, 4), ("OutletOffice$Bill", F_8, 7), ("OutletOffice$Office", F_9, 7), ("OutletOfficeModel", F_10, 40)]
def TYS (cA : Nat → ClassId) : List (ClassId × FieldType) := [(cA 100, .int), (cA 101, .long), (cA 102, .boolean), (cA 103, .object "OutletOffice$Site"), (cA 104, .object "OutletOffice$Point"), (cA 105, .object "OutletOffice$Message"), (cA 106, .object "OutletOffice$Bill")]
def TKl : List (List (Nat × Nat)) := [[(2, 1), (2, 2), (0, 0)], [(2, 1), (0, 0)], [(2, 1), (2, 2), (2, 28), (0, 0), (0, 0), (1, 0), (0, 0), (0, 0), (0, 0), (0, 0), (0, 0), (0, 0)], [(0, 0), (0, 0), (0, 0), (0, 0), (0, 0), (0, 0)], [(2, 1), (0, 0), (0, 0), (0, 0), (0, 0)], [(0, 0), (0, 0), (0, 0), (0, 0), (0, 0), (0, 0)], [(2, 1), (2, 2)], [(2, 1), (2, 2), (0, 0), (0, 0)], [(0, 0), (0, 0), (0, 0), (1, 0), (0, 0), (0, 0), (0, 0)], [(2, 1), (2, 4), (2, 7), (2, 8), (2, 9), (0, 0), (2, 10)], [(0, 0), (0, 0), (2, 1), (2, 2), (2, 3), (0, 0), (0, 0), (2, 4), (2, 5), (2, 6), (2, 7), (2, 8), (2, 9), (2, 10), (2, 11), (2, 12), (2, 13), (2, 14), (2, 15), (2, 16), (2, 17), (2, 18), (2, 19), (2, 20), (2, 21), (2, 22), (2, 23), (2, 24), (2, 25), (2, 26), (2, 27), (2, 28), (2, 29), (2, 30), (2, 31), (0, 0), (2, 32), (2, 33), (2, 34), (0, 0)]]
/-- a slot's type: 0 an int, 1 a long, 2 the address of the cell so many places on -/
def TK (kd k : Nat) : Nat × Nat := if kd < 100 then (TKl.getD kd []).getD k (0, 0) else if kd = 101 then (1, 0) else if kd = 103 then (2, 18 + 95 * k) else if kd = 104 then (2, 1 + 31 * k) else if kd = 105 then (2, 1 + 1 * k) else if kd = 106 then (2, 4 + 1 * k) else (0, 0)
theorem tk_0_0 : TK 0 0 = (2, 1) := by decide +kernel
theorem tk_0_1 : TK 0 1 = (2, 2) := by decide +kernel
theorem tk_0_2 : TK 0 2 = (0, 0) := by decide +kernel
theorem tk_1_0 : TK 1 0 = (2, 1) := by decide +kernel
theorem tk_1_1 : TK 1 1 = (0, 0) := by decide +kernel
theorem tk_2_0 : TK 2 0 = (2, 1) := by decide +kernel
theorem tk_2_1 : TK 2 1 = (2, 2) := by decide +kernel
theorem tk_2_2 : TK 2 2 = (2, 28) := by decide +kernel
theorem tk_2_3 : TK 2 3 = (0, 0) := by decide +kernel
theorem tk_2_4 : TK 2 4 = (0, 0) := by decide +kernel
theorem tk_2_5 : TK 2 5 = (1, 0) := by decide +kernel
theorem tk_2_6 : TK 2 6 = (0, 0) := by decide +kernel
theorem tk_2_7 : TK 2 7 = (0, 0) := by decide +kernel
theorem tk_2_8 : TK 2 8 = (0, 0) := by decide +kernel
theorem tk_2_9 : TK 2 9 = (0, 0) := by decide +kernel
theorem tk_2_10 : TK 2 10 = (0, 0) := by decide +kernel
theorem tk_2_11 : TK 2 11 = (0, 0) := by decide +kernel
theorem tk_3_0 : TK 3 0 = (0, 0) := by decide +kernel
theorem tk_3_1 : TK 3 1 = (0, 0) := by decide +kernel
theorem tk_3_2 : TK 3 2 = (0, 0) := by decide +kernel
theorem tk_3_3 : TK 3 3 = (0, 0) := by decide +kernel
theorem tk_3_4 : TK 3 4 = (0, 0) := by decide +kernel
theorem tk_3_5 : TK 3 5 = (0, 0) := by decide +kernel
theorem tk_4_0 : TK 4 0 = (2, 1) := by decide +kernel
theorem tk_4_1 : TK 4 1 = (0, 0) := by decide +kernel
theorem tk_4_2 : TK 4 2 = (0, 0) := by decide +kernel
theorem tk_4_3 : TK 4 3 = (0, 0) := by decide +kernel
theorem tk_4_4 : TK 4 4 = (0, 0) := by decide +kernel
theorem tk_5_0 : TK 5 0 = (0, 0) := by decide +kernel
theorem tk_5_1 : TK 5 1 = (0, 0) := by decide +kernel
theorem tk_5_2 : TK 5 2 = (0, 0) := by decide +kernel
theorem tk_5_3 : TK 5 3 = (0, 0) := by decide +kernel
theorem tk_5_4 : TK 5 4 = (0, 0) := by decide +kernel
theorem tk_5_5 : TK 5 5 = (0, 0) := by decide +kernel
theorem tk_6_0 : TK 6 0 = (2, 1) := by decide +kernel
theorem tk_6_1 : TK 6 1 = (2, 2) := by decide +kernel
theorem tk_7_0 : TK 7 0 = (2, 1) := by decide +kernel
theorem tk_7_1 : TK 7 1 = (2, 2) := by decide +kernel
theorem tk_7_2 : TK 7 2 = (0, 0) := by decide +kernel
theorem tk_7_3 : TK 7 3 = (0, 0) := by decide +kernel
theorem tk_8_0 : TK 8 0 = (0, 0) := by decide +kernel
theorem tk_8_1 : TK 8 1 = (0, 0) := by decide +kernel
theorem tk_8_2 : TK 8 2 = (0, 0) := by decide +kernel
theorem tk_8_3 : TK 8 3 = (1, 0) := by decide +kernel
theorem tk_8_4 : TK 8 4 = (0, 0) := by decide +kernel
theorem tk_8_5 : TK 8 5 = (0, 0) := by decide +kernel
theorem tk_8_6 : TK 8 6 = (0, 0) := by decide +kernel
theorem tk_9_0 : TK 9 0 = (2, 1) := by decide +kernel
theorem tk_9_1 : TK 9 1 = (2, 4) := by decide +kernel
theorem tk_9_2 : TK 9 2 = (2, 7) := by decide +kernel
theorem tk_9_3 : TK 9 3 = (2, 8) := by decide +kernel
theorem tk_9_4 : TK 9 4 = (2, 9) := by decide +kernel
theorem tk_9_5 : TK 9 5 = (0, 0) := by decide +kernel
theorem tk_9_6 : TK 9 6 = (2, 10) := by decide +kernel
theorem tk_10_0 : TK 10 0 = (0, 0) := by decide +kernel
theorem tk_10_1 : TK 10 1 = (0, 0) := by decide +kernel
theorem tk_10_2 : TK 10 2 = (2, 1) := by decide +kernel
theorem tk_10_3 : TK 10 3 = (2, 2) := by decide +kernel
theorem tk_10_4 : TK 10 4 = (2, 3) := by decide +kernel
theorem tk_10_5 : TK 10 5 = (0, 0) := by decide +kernel
theorem tk_10_6 : TK 10 6 = (0, 0) := by decide +kernel
theorem tk_10_7 : TK 10 7 = (2, 4) := by decide +kernel
theorem tk_10_8 : TK 10 8 = (2, 5) := by decide +kernel
theorem tk_10_9 : TK 10 9 = (2, 6) := by decide +kernel
theorem tk_10_10 : TK 10 10 = (2, 7) := by decide +kernel
theorem tk_10_11 : TK 10 11 = (2, 8) := by decide +kernel
theorem tk_10_12 : TK 10 12 = (2, 9) := by decide +kernel
theorem tk_10_13 : TK 10 13 = (2, 10) := by decide +kernel
theorem tk_10_14 : TK 10 14 = (2, 11) := by decide +kernel
theorem tk_10_15 : TK 10 15 = (2, 12) := by decide +kernel
theorem tk_10_16 : TK 10 16 = (2, 13) := by decide +kernel
theorem tk_10_17 : TK 10 17 = (2, 14) := by decide +kernel
theorem tk_10_18 : TK 10 18 = (2, 15) := by decide +kernel
theorem tk_10_19 : TK 10 19 = (2, 16) := by decide +kernel
theorem tk_10_20 : TK 10 20 = (2, 17) := by decide +kernel
theorem tk_10_21 : TK 10 21 = (2, 18) := by decide +kernel
theorem tk_10_22 : TK 10 22 = (2, 19) := by decide +kernel
theorem tk_10_23 : TK 10 23 = (2, 20) := by decide +kernel
theorem tk_10_24 : TK 10 24 = (2, 21) := by decide +kernel
theorem tk_10_25 : TK 10 25 = (2, 22) := by decide +kernel
theorem tk_10_26 : TK 10 26 = (2, 23) := by decide +kernel
theorem tk_10_27 : TK 10 27 = (2, 24) := by decide +kernel
theorem tk_10_28 : TK 10 28 = (2, 25) := by decide +kernel
theorem tk_10_29 : TK 10 29 = (2, 26) := by decide +kernel
theorem tk_10_30 : TK 10 30 = (2, 27) := by decide +kernel
theorem tk_10_31 : TK 10 31 = (2, 28) := by decide +kernel
theorem tk_10_32 : TK 10 32 = (2, 29) := by decide +kernel
theorem tk_10_33 : TK 10 33 = (2, 30) := by decide +kernel
theorem tk_10_34 : TK 10 34 = (2, 31) := by decide +kernel
theorem tk_10_35 : TK 10 35 = (0, 0) := by decide +kernel
theorem tk_10_36 : TK 10 36 = (2, 32) := by decide +kernel
theorem tk_10_37 : TK 10 37 = (2, 33) := by decide +kernel
theorem tk_10_38 : TK 10 38 = (2, 34) := by decide +kernel
theorem tk_10_39 : TK 10 39 = (0, 0) := by decide +kernel
theorem tka_100 : ∀ j, TK 100 j = (0, 0) := fun _ => rfl
theorem tka_102 : ∀ j, TK 102 j = (0, 0) := fun _ => rfl
theorem tka_101 : ∀ j, TK 101 j = (1, 0) := fun _ => rfl
theorem tka_103 : ∀ j, TK 103 j = (2, 18 + 95 * j) := fun _ => rfl
theorem tka_104 : ∀ j, TK 104 j = (2, 1 + 31 * j) := fun _ => rfl
theorem tka_105 : ∀ j, TK 105 j = (2, 1 + 1 * j) := fun _ => rfl
theorem tka_106 : ∀ j, TK 106 j = (2, 4 + 1 * j) := fun _ => rfl
def layUl : List (Nat × Nat) := [(0, 0), (103, 2), (9, 0), (6, 0), (100, 16), (100, 16), (7, 0), (100, 4), (100, 4), (106, 6), (100, 640), (101, 16), (100, 6), (8, 0), (8, 0), (8, 0), (8, 0), (8, 0), (8, 0), (1, 0), (104, 3), (2, 0), (3, 0), (4, 0), (105, 24), (5, 0), (5, 0), (5, 0), (5, 0), (5, 0), (5, 0), (5, 0), (5, 0), (5, 0), (5, 0), (5, 0), (5, 0), (5, 0), (5, 0), (5, 0), (5, 0), (5, 0), (5, 0), (5, 0), (5, 0), (5, 0), (5, 0), (5, 0), (5, 0), (6, 0), (100, 16), (100, 16), (2, 0), (3, 0), (4, 0), (105, 24), (5, 0), (5, 0), (5, 0), (5, 0), (5, 0), (5, 0), (5, 0), (5, 0), (5, 0), (5, 0), (5, 0), (5, 0), (5, 0), (5, 0), (5, 0), (5, 0), (5, 0), (5, 0), (5, 0), (5, 0), (5, 0), (5, 0), (5, 0), (5, 0), (6, 0), (100, 16), (100, 16), (2, 0), (3, 0), (4, 0), (105, 24), (5, 0), (5, 0), (5, 0), (5, 0), (5, 0), (5, 0), (5, 0), (5, 0), (5, 0), (5, 0), (5, 0), (5, 0), (5, 0), (5, 0), (5, 0), (5, 0), (5, 0), (5, 0), (5, 0), (5, 0), (5, 0), (5, 0), (5, 0), (5, 0), (6, 0), (100, 16), (100, 16), (1, 0), (104, 3), (2, 0), (3, 0), (4, 0), (105, 24), (5, 0), (5, 0), (5, 0), (5, 0), (5, 0), (5, 0), (5, 0), (5, 0), (5, 0), (5, 0), (5, 0), (5, 0), (5, 0), (5, 0), (5, 0), (5, 0), (5, 0), (5, 0), (5, 0), (5, 0), (5, 0), (5, 0), (5, 0), (5, 0), (6, 0), (100, 16), (100, 16), (2, 0), (3, 0), (4, 0), (105, 24), (5, 0), (5, 0), (5, 0), (5, 0), (5, 0), (5, 0), (5, 0), (5, 0), (5, 0), (5, 0), (5, 0), (5, 0), (5, 0), (5, 0), (5, 0), (5, 0), (5, 0), (5, 0), (5, 0), (5, 0), (5, 0), (5, 0), (5, 0), (5, 0), (6, 0), (100, 16), (100, 16), (2, 0), (3, 0), (4, 0), (105, 24), (5, 0), (5, 0), (5, 0), (5, 0), (5, 0), (5, 0), (5, 0), (5, 0), (5, 0), (5, 0), (5, 0), (5, 0), (5, 0), (5, 0), (5, 0), (5, 0), (5, 0), (5, 0), (5, 0), (5, 0), (5, 0), (5, 0), (5, 0), (5, 0), (6, 0), (100, 16), (100, 16), (10, 0), (100, 2), (100, 4), (100, 4), (100, 112), (100, 112), (102, 6), (102, 6), (101, 6), (100, 6), (100, 6), (100, 6), (100, 6), (100, 6), (100, 6), (100, 6), (100, 864), (101, 144), (102, 6), (100, 6), (100, 6), (101, 6), (102, 6), (100, 6), (100, 6), (102, 6), (100, 6), (100, 6), (101, 6), (101, 6), (101, 6), (100, 6), (100, 640), (101, 16), (100, 6), (101, 1)]
def layU (o : Nat) : Nat × Nat := layUl.getD o (999, 0)
theorem lfB_0_0 : ∀ o, o < 245 → layU o = (0, 0) → (o + 1 < 245 ∧ layU (o + 1) = (103, 2)) := by decide +kernel
theorem lf_0_0 {o : Nat} (h : o < 245 ∧ layU o = (0, 0)) : o + 1 < 245 ∧ layU (o + 1) = (103, 2) := lfB_0_0 o h.1 h.2
theorem lfB_0_1 : ∀ o, o < 245 → layU o = (0, 0) → (o + 2 < 245 ∧ layU (o + 2) = (9, 0)) := by decide +kernel
theorem lf_0_1 {o : Nat} (h : o < 245 ∧ layU o = (0, 0)) : o + 2 < 245 ∧ layU (o + 2) = (9, 0) := lfB_0_1 o h.1 h.2
theorem lfB_1_0 : ∀ o, o < 245 → layU o = (1, 0) → (o + 1 < 245 ∧ layU (o + 1) = (104, 3)) := by decide +kernel
theorem lf_1_0 {o : Nat} (h : o < 245 ∧ layU o = (1, 0)) : o + 1 < 245 ∧ layU (o + 1) = (104, 3) := lfB_1_0 o h.1 h.2
theorem lfB_2_0 : ∀ o, o < 245 → layU o = (2, 0) → (o + 1 < 245 ∧ layU (o + 1) = (3, 0)) := by decide +kernel
theorem lf_2_0 {o : Nat} (h : o < 245 ∧ layU o = (2, 0)) : o + 1 < 245 ∧ layU (o + 1) = (3, 0) := lfB_2_0 o h.1 h.2
theorem lfB_2_1 : ∀ o, o < 245 → layU o = (2, 0) → (o + 2 < 245 ∧ layU (o + 2) = (4, 0)) := by decide +kernel
theorem lf_2_1 {o : Nat} (h : o < 245 ∧ layU o = (2, 0)) : o + 2 < 245 ∧ layU (o + 2) = (4, 0) := lfB_2_1 o h.1 h.2
theorem lfB_2_2 : ∀ o, o < 245 → layU o = (2, 0) → (o + 28 < 245 ∧ layU (o + 28) = (6, 0)) := by decide +kernel
theorem lf_2_2 {o : Nat} (h : o < 245 ∧ layU o = (2, 0)) : o + 28 < 245 ∧ layU (o + 28) = (6, 0) := lfB_2_2 o h.1 h.2
theorem lfB_4_0 : ∀ o, o < 245 → layU o = (4, 0) → (o + 1 < 245 ∧ layU (o + 1) = (105, 24)) := by decide +kernel
theorem lf_4_0 {o : Nat} (h : o < 245 ∧ layU o = (4, 0)) : o + 1 < 245 ∧ layU (o + 1) = (105, 24) := lfB_4_0 o h.1 h.2
theorem lfB_6_0 : ∀ o, o < 245 → layU o = (6, 0) → (o + 1 < 245 ∧ layU (o + 1) = (100, 16)) := by decide +kernel
theorem lf_6_0 {o : Nat} (h : o < 245 ∧ layU o = (6, 0)) : o + 1 < 245 ∧ layU (o + 1) = (100, 16) := lfB_6_0 o h.1 h.2
theorem lfB_6_1 : ∀ o, o < 245 → layU o = (6, 0) → (o + 2 < 245 ∧ layU (o + 2) = (100, 16)) := by decide +kernel
theorem lf_6_1 {o : Nat} (h : o < 245 ∧ layU o = (6, 0)) : o + 2 < 245 ∧ layU (o + 2) = (100, 16) := lfB_6_1 o h.1 h.2
theorem lfB_7_0 : ∀ o, o < 245 → layU o = (7, 0) → (o + 1 < 245 ∧ layU (o + 1) = (100, 4)) := by decide +kernel
theorem lf_7_0 {o : Nat} (h : o < 245 ∧ layU o = (7, 0)) : o + 1 < 245 ∧ layU (o + 1) = (100, 4) := lfB_7_0 o h.1 h.2
theorem lfB_7_1 : ∀ o, o < 245 → layU o = (7, 0) → (o + 2 < 245 ∧ layU (o + 2) = (100, 4)) := by decide +kernel
theorem lf_7_1 {o : Nat} (h : o < 245 ∧ layU o = (7, 0)) : o + 2 < 245 ∧ layU (o + 2) = (100, 4) := lfB_7_1 o h.1 h.2
theorem lfB_9_0 : ∀ o, o < 245 → layU o = (9, 0) → (o + 1 < 245 ∧ layU (o + 1) = (6, 0)) := by decide +kernel
theorem lf_9_0 {o : Nat} (h : o < 245 ∧ layU o = (9, 0)) : o + 1 < 245 ∧ layU (o + 1) = (6, 0) := lfB_9_0 o h.1 h.2
theorem lfB_9_1 : ∀ o, o < 245 → layU o = (9, 0) → (o + 4 < 245 ∧ layU (o + 4) = (7, 0)) := by decide +kernel
theorem lf_9_1 {o : Nat} (h : o < 245 ∧ layU o = (9, 0)) : o + 4 < 245 ∧ layU (o + 4) = (7, 0) := lfB_9_1 o h.1 h.2
theorem lfB_9_2 : ∀ o, o < 245 → layU o = (9, 0) → (o + 7 < 245 ∧ layU (o + 7) = (106, 6)) := by decide +kernel
theorem lf_9_2 {o : Nat} (h : o < 245 ∧ layU o = (9, 0)) : o + 7 < 245 ∧ layU (o + 7) = (106, 6) := lfB_9_2 o h.1 h.2
theorem lfB_9_3 : ∀ o, o < 245 → layU o = (9, 0) → (o + 8 < 245 ∧ layU (o + 8) = (100, 640)) := by decide +kernel
theorem lf_9_3 {o : Nat} (h : o < 245 ∧ layU o = (9, 0)) : o + 8 < 245 ∧ layU (o + 8) = (100, 640) := lfB_9_3 o h.1 h.2
theorem lfB_9_4 : ∀ o, o < 245 → layU o = (9, 0) → (o + 9 < 245 ∧ layU (o + 9) = (101, 16)) := by decide +kernel
theorem lf_9_4 {o : Nat} (h : o < 245 ∧ layU o = (9, 0)) : o + 9 < 245 ∧ layU (o + 9) = (101, 16) := lfB_9_4 o h.1 h.2
theorem lfB_9_6 : ∀ o, o < 245 → layU o = (9, 0) → (o + 10 < 245 ∧ layU (o + 10) = (100, 6)) := by decide +kernel
theorem lf_9_6 {o : Nat} (h : o < 245 ∧ layU o = (9, 0)) : o + 10 < 245 ∧ layU (o + 10) = (100, 6) := lfB_9_6 o h.1 h.2
theorem lfB_10_2 : ∀ o, o < 245 → layU o = (10, 0) → (o + 1 < 245 ∧ layU (o + 1) = (100, 2)) := by decide +kernel
theorem lf_10_2 {o : Nat} (h : o < 245 ∧ layU o = (10, 0)) : o + 1 < 245 ∧ layU (o + 1) = (100, 2) := lfB_10_2 o h.1 h.2
theorem lfB_10_3 : ∀ o, o < 245 → layU o = (10, 0) → (o + 2 < 245 ∧ layU (o + 2) = (100, 4)) := by decide +kernel
theorem lf_10_3 {o : Nat} (h : o < 245 ∧ layU o = (10, 0)) : o + 2 < 245 ∧ layU (o + 2) = (100, 4) := lfB_10_3 o h.1 h.2
theorem lfB_10_4 : ∀ o, o < 245 → layU o = (10, 0) → (o + 3 < 245 ∧ layU (o + 3) = (100, 4)) := by decide +kernel
theorem lf_10_4 {o : Nat} (h : o < 245 ∧ layU o = (10, 0)) : o + 3 < 245 ∧ layU (o + 3) = (100, 4) := lfB_10_4 o h.1 h.2
theorem lfB_10_7 : ∀ o, o < 245 → layU o = (10, 0) → (o + 4 < 245 ∧ layU (o + 4) = (100, 112)) := by decide +kernel
theorem lf_10_7 {o : Nat} (h : o < 245 ∧ layU o = (10, 0)) : o + 4 < 245 ∧ layU (o + 4) = (100, 112) := lfB_10_7 o h.1 h.2
theorem lfB_10_8 : ∀ o, o < 245 → layU o = (10, 0) → (o + 5 < 245 ∧ layU (o + 5) = (100, 112)) := by decide +kernel
theorem lf_10_8 {o : Nat} (h : o < 245 ∧ layU o = (10, 0)) : o + 5 < 245 ∧ layU (o + 5) = (100, 112) := lfB_10_8 o h.1 h.2
theorem lfB_10_9 : ∀ o, o < 245 → layU o = (10, 0) → (o + 6 < 245 ∧ layU (o + 6) = (102, 6)) := by decide +kernel
theorem lf_10_9 {o : Nat} (h : o < 245 ∧ layU o = (10, 0)) : o + 6 < 245 ∧ layU (o + 6) = (102, 6) := lfB_10_9 o h.1 h.2
theorem lfB_10_10 : ∀ o, o < 245 → layU o = (10, 0) → (o + 7 < 245 ∧ layU (o + 7) = (102, 6)) := by decide +kernel
theorem lf_10_10 {o : Nat} (h : o < 245 ∧ layU o = (10, 0)) : o + 7 < 245 ∧ layU (o + 7) = (102, 6) := lfB_10_10 o h.1 h.2
theorem lfB_10_11 : ∀ o, o < 245 → layU o = (10, 0) → (o + 8 < 245 ∧ layU (o + 8) = (101, 6)) := by decide +kernel
theorem lf_10_11 {o : Nat} (h : o < 245 ∧ layU o = (10, 0)) : o + 8 < 245 ∧ layU (o + 8) = (101, 6) := lfB_10_11 o h.1 h.2
theorem lfB_10_12 : ∀ o, o < 245 → layU o = (10, 0) → (o + 9 < 245 ∧ layU (o + 9) = (100, 6)) := by decide +kernel
theorem lf_10_12 {o : Nat} (h : o < 245 ∧ layU o = (10, 0)) : o + 9 < 245 ∧ layU (o + 9) = (100, 6) := lfB_10_12 o h.1 h.2
theorem lfB_10_13 : ∀ o, o < 245 → layU o = (10, 0) → (o + 10 < 245 ∧ layU (o + 10) = (100, 6)) := by decide +kernel
theorem lf_10_13 {o : Nat} (h : o < 245 ∧ layU o = (10, 0)) : o + 10 < 245 ∧ layU (o + 10) = (100, 6) := lfB_10_13 o h.1 h.2
theorem lfB_10_14 : ∀ o, o < 245 → layU o = (10, 0) → (o + 11 < 245 ∧ layU (o + 11) = (100, 6)) := by decide +kernel
theorem lf_10_14 {o : Nat} (h : o < 245 ∧ layU o = (10, 0)) : o + 11 < 245 ∧ layU (o + 11) = (100, 6) := lfB_10_14 o h.1 h.2
theorem lfB_10_15 : ∀ o, o < 245 → layU o = (10, 0) → (o + 12 < 245 ∧ layU (o + 12) = (100, 6)) := by decide +kernel
theorem lf_10_15 {o : Nat} (h : o < 245 ∧ layU o = (10, 0)) : o + 12 < 245 ∧ layU (o + 12) = (100, 6) := lfB_10_15 o h.1 h.2
theorem lfB_10_16 : ∀ o, o < 245 → layU o = (10, 0) → (o + 13 < 245 ∧ layU (o + 13) = (100, 6)) := by decide +kernel
theorem lf_10_16 {o : Nat} (h : o < 245 ∧ layU o = (10, 0)) : o + 13 < 245 ∧ layU (o + 13) = (100, 6) := lfB_10_16 o h.1 h.2
theorem lfB_10_17 : ∀ o, o < 245 → layU o = (10, 0) → (o + 14 < 245 ∧ layU (o + 14) = (100, 6)) := by decide +kernel
theorem lf_10_17 {o : Nat} (h : o < 245 ∧ layU o = (10, 0)) : o + 14 < 245 ∧ layU (o + 14) = (100, 6) := lfB_10_17 o h.1 h.2
theorem lfB_10_18 : ∀ o, o < 245 → layU o = (10, 0) → (o + 15 < 245 ∧ layU (o + 15) = (100, 6)) := by decide +kernel
theorem lf_10_18 {o : Nat} (h : o < 245 ∧ layU o = (10, 0)) : o + 15 < 245 ∧ layU (o + 15) = (100, 6) := lfB_10_18 o h.1 h.2
theorem lfB_10_19 : ∀ o, o < 245 → layU o = (10, 0) → (o + 16 < 245 ∧ layU (o + 16) = (100, 864)) := by decide +kernel
theorem lf_10_19 {o : Nat} (h : o < 245 ∧ layU o = (10, 0)) : o + 16 < 245 ∧ layU (o + 16) = (100, 864) := lfB_10_19 o h.1 h.2
theorem lfB_10_20 : ∀ o, o < 245 → layU o = (10, 0) → (o + 17 < 245 ∧ layU (o + 17) = (101, 144)) := by decide +kernel
theorem lf_10_20 {o : Nat} (h : o < 245 ∧ layU o = (10, 0)) : o + 17 < 245 ∧ layU (o + 17) = (101, 144) := lfB_10_20 o h.1 h.2
theorem lfB_10_21 : ∀ o, o < 245 → layU o = (10, 0) → (o + 18 < 245 ∧ layU (o + 18) = (102, 6)) := by decide +kernel
theorem lf_10_21 {o : Nat} (h : o < 245 ∧ layU o = (10, 0)) : o + 18 < 245 ∧ layU (o + 18) = (102, 6) := lfB_10_21 o h.1 h.2
theorem lfB_10_22 : ∀ o, o < 245 → layU o = (10, 0) → (o + 19 < 245 ∧ layU (o + 19) = (100, 6)) := by decide +kernel
theorem lf_10_22 {o : Nat} (h : o < 245 ∧ layU o = (10, 0)) : o + 19 < 245 ∧ layU (o + 19) = (100, 6) := lfB_10_22 o h.1 h.2
theorem lfB_10_23 : ∀ o, o < 245 → layU o = (10, 0) → (o + 20 < 245 ∧ layU (o + 20) = (100, 6)) := by decide +kernel
theorem lf_10_23 {o : Nat} (h : o < 245 ∧ layU o = (10, 0)) : o + 20 < 245 ∧ layU (o + 20) = (100, 6) := lfB_10_23 o h.1 h.2
theorem lfB_10_24 : ∀ o, o < 245 → layU o = (10, 0) → (o + 21 < 245 ∧ layU (o + 21) = (101, 6)) := by decide +kernel
theorem lf_10_24 {o : Nat} (h : o < 245 ∧ layU o = (10, 0)) : o + 21 < 245 ∧ layU (o + 21) = (101, 6) := lfB_10_24 o h.1 h.2
theorem lfB_10_25 : ∀ o, o < 245 → layU o = (10, 0) → (o + 22 < 245 ∧ layU (o + 22) = (102, 6)) := by decide +kernel
theorem lf_10_25 {o : Nat} (h : o < 245 ∧ layU o = (10, 0)) : o + 22 < 245 ∧ layU (o + 22) = (102, 6) := lfB_10_25 o h.1 h.2
theorem lfB_10_26 : ∀ o, o < 245 → layU o = (10, 0) → (o + 23 < 245 ∧ layU (o + 23) = (100, 6)) := by decide +kernel
theorem lf_10_26 {o : Nat} (h : o < 245 ∧ layU o = (10, 0)) : o + 23 < 245 ∧ layU (o + 23) = (100, 6) := lfB_10_26 o h.1 h.2
theorem lfB_10_27 : ∀ o, o < 245 → layU o = (10, 0) → (o + 24 < 245 ∧ layU (o + 24) = (100, 6)) := by decide +kernel
theorem lf_10_27 {o : Nat} (h : o < 245 ∧ layU o = (10, 0)) : o + 24 < 245 ∧ layU (o + 24) = (100, 6) := lfB_10_27 o h.1 h.2
theorem lfB_10_28 : ∀ o, o < 245 → layU o = (10, 0) → (o + 25 < 245 ∧ layU (o + 25) = (102, 6)) := by decide +kernel
theorem lf_10_28 {o : Nat} (h : o < 245 ∧ layU o = (10, 0)) : o + 25 < 245 ∧ layU (o + 25) = (102, 6) := lfB_10_28 o h.1 h.2
theorem lfB_10_29 : ∀ o, o < 245 → layU o = (10, 0) → (o + 26 < 245 ∧ layU (o + 26) = (100, 6)) := by decide +kernel
theorem lf_10_29 {o : Nat} (h : o < 245 ∧ layU o = (10, 0)) : o + 26 < 245 ∧ layU (o + 26) = (100, 6) := lfB_10_29 o h.1 h.2
theorem lfB_10_30 : ∀ o, o < 245 → layU o = (10, 0) → (o + 27 < 245 ∧ layU (o + 27) = (100, 6)) := by decide +kernel
theorem lf_10_30 {o : Nat} (h : o < 245 ∧ layU o = (10, 0)) : o + 27 < 245 ∧ layU (o + 27) = (100, 6) := lfB_10_30 o h.1 h.2
theorem lfB_10_31 : ∀ o, o < 245 → layU o = (10, 0) → (o + 28 < 245 ∧ layU (o + 28) = (101, 6)) := by decide +kernel
theorem lf_10_31 {o : Nat} (h : o < 245 ∧ layU o = (10, 0)) : o + 28 < 245 ∧ layU (o + 28) = (101, 6) := lfB_10_31 o h.1 h.2
theorem lfB_10_32 : ∀ o, o < 245 → layU o = (10, 0) → (o + 29 < 245 ∧ layU (o + 29) = (101, 6)) := by decide +kernel
theorem lf_10_32 {o : Nat} (h : o < 245 ∧ layU o = (10, 0)) : o + 29 < 245 ∧ layU (o + 29) = (101, 6) := lfB_10_32 o h.1 h.2
theorem lfB_10_33 : ∀ o, o < 245 → layU o = (10, 0) → (o + 30 < 245 ∧ layU (o + 30) = (101, 6)) := by decide +kernel
theorem lf_10_33 {o : Nat} (h : o < 245 ∧ layU o = (10, 0)) : o + 30 < 245 ∧ layU (o + 30) = (101, 6) := lfB_10_33 o h.1 h.2
theorem lfB_10_34 : ∀ o, o < 245 → layU o = (10, 0) → (o + 31 < 245 ∧ layU (o + 31) = (100, 6)) := by decide +kernel
theorem lf_10_34 {o : Nat} (h : o < 245 ∧ layU o = (10, 0)) : o + 31 < 245 ∧ layU (o + 31) = (100, 6) := lfB_10_34 o h.1 h.2
theorem lfB_10_36 : ∀ o, o < 245 → layU o = (10, 0) → (o + 32 < 245 ∧ layU (o + 32) = (100, 640)) := by decide +kernel
theorem lf_10_36 {o : Nat} (h : o < 245 ∧ layU o = (10, 0)) : o + 32 < 245 ∧ layU (o + 32) = (100, 640) := lfB_10_36 o h.1 h.2
theorem lfB_10_37 : ∀ o, o < 245 → layU o = (10, 0) → (o + 33 < 245 ∧ layU (o + 33) = (101, 16)) := by decide +kernel
theorem lf_10_37 {o : Nat} (h : o < 245 ∧ layU o = (10, 0)) : o + 33 < 245 ∧ layU (o + 33) = (101, 16) := lfB_10_37 o h.1 h.2
theorem lfB_10_38 : ∀ o, o < 245 → layU o = (10, 0) → (o + 34 < 245 ∧ layU (o + 34) = (100, 6)) := by decide +kernel
theorem lf_10_38 {o : Nat} (h : o < 245 ∧ layU o = (10, 0)) : o + 34 < 245 ∧ layU (o + 34) = (100, 6) := lfB_10_38 o h.1 h.2
theorem leB_103 : ∀ o, o < 245 → layU o = (103, 2) → ∀ j, j < 2 → (o + (18 + 95 * j) < 245 ∧ layU (o + (18 + 95 * j)) = (1, 0)) := by decide +kernel
theorem le_103 {o j : Nat} (h : o < 245 ∧ layU o = (103, 2)) (hj : j < 2) : o + (18 + 95 * j) < 245 ∧ layU (o + (18 + 95 * j)) = (1, 0) := leB_103 o h.1 h.2 j hj
theorem leB_104 : ∀ o, o < 245 → layU o = (104, 3) → ∀ j, j < 3 → (o + (1 + 31 * j) < 245 ∧ layU (o + (1 + 31 * j)) = (2, 0)) := by decide +kernel
theorem le_104 {o j : Nat} (h : o < 245 ∧ layU o = (104, 3)) (hj : j < 3) : o + (1 + 31 * j) < 245 ∧ layU (o + (1 + 31 * j)) = (2, 0) := leB_104 o h.1 h.2 j hj
theorem leB_105 : ∀ o, o < 245 → layU o = (105, 24) → ∀ j, j < 24 → (o + (1 + 1 * j) < 245 ∧ layU (o + (1 + 1 * j)) = (5, 0)) := by decide +kernel
theorem le_105 {o j : Nat} (h : o < 245 ∧ layU o = (105, 24)) (hj : j < 24) : o + (1 + 1 * j) < 245 ∧ layU (o + (1 + 1 * j)) = (5, 0) := leB_105 o h.1 h.2 j hj
theorem leB_106 : ∀ o, o < 245 → layU o = (106, 6) → ∀ j, j < 6 → (o + (4 + 1 * j) < 245 ∧ layU (o + (4 + 1 * j)) = (8, 0)) := by decide +kernel
theorem le_106 {o j : Nat} (h : o < 245 ∧ layU o = (106, 6)) (hj : j < 6) : o + (4 + 1 * j) < 245 ∧ layU (o + (4 + 1 * j)) = (8, 0) := leB_106 o h.1 h.2 j hj
theorem fw_lt {i : Int32} {n : Nat} (h : vp_in i n) : i.toNatClampNeg < n := Nat.not_le.mp fun q => h (Or.inr q)
theorem fw_gV {k cw : Cond} {own C : String} {index : Nat} {y : MethodName} (h0 : cw ∈ TB) (h1 : Cond.methodLink own index y ∈ TB) (h2 : Cond.instanceMethod y ∈ TB) (h3 : Cond.selects C y y ∈ TB) (h4 : Cond.initialized C ∈ TB) : GoodIn (k :: TB) (wsV own index C y (cw :: TB)) := by
  intro w hw
  unfold wsV at hw
  simp only [List.mem_append, List.mem_cons, List.not_mem_nil, or_false] at hw
  rcases hw with (rfl | rfl | rfl | rfl) | rfl | hw
  · exact tb_all h1
  · exact tb_all h2
  · exact tb_all h3
  · exact tb_all h4
  · exact tb_all h0
  · exact tb_all hw
theorem fw_gS {k cw : Cond} {own : String} {index : Nat} {y : MethodName} (h0 : cw ∈ TB) (h1 : Cond.methodLink own index y ∈ TB) (h2 : Cond.static y ∈ TB) (h3 : Cond.initialized own ∈ TB) : GoodIn (k :: TB) (wsS own index y (cw :: TB)) := by
  intro w hw
  unfold wsS at hw
  simp only [List.mem_append, List.mem_cons, List.not_mem_nil, or_false] at hw
  rcases hw with (rfl | rfl | rfl) | rfl | hw
  · exact tb_all h1
  · exact tb_all h2
  · exact tb_all h3
  · exact tb_all h0
  · exact tb_all hw
theorem fw_g {k cw : Cond} (h0 : cw ∈ TB) : GoodIn (k :: TB) (cw :: TB) := by
  intro w hw
  rcases List.mem_cons.mp hw with rfl | hw
  · exact tb_all h0
  · exact tb_all hw
