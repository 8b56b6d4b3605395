/** Prices, fees and bills, at each number that the document names and on both sides of it. */
public final class BillEdgeTest {
    private static final Due DUE = new Due();
    private static final int DAY = 86400;

    public static void main(String[] args) {
        noBand();
        bandAtItsMinute();
        onlyLaterBands();
        bandsOfOneMinute();
        firstAndLastMinute();
        daysGoRound();
        bandSetAgain();
        pricesOf0AndTheMost();
        priceAtTheTimeBefore();
        wattHoursAreCutOff();
        wattHoursFromTheStart();
        startFees();
        idleBy60IsCutOff();
        idleOfNothing();
        idleFees();
        centsAreRounded();
        totalsAreOfCents();
        startTakenInBefore();
        readingTakenInBefore();
        stopTakenInBefore();
        lostCallIsTakenInLater();
        settingsOfTheTakingIn();
        openOrNot();
        billsByNumber();
        cardThatBegan();
        mostBills();
        theGreatestBill();
        DUE.end();
    }

    private static void passTo(OutletOffice x, int time) {
        while (x.time() < time) {
            x.pass(Math.min(DAY, time - x.time()));
        }
    }

    /**
     * The price at a time in whole cents, of bands told by number, minute and price: half of the bill
     * of a session that began then and took two watt-hours.
     */
    private static long priceAt(int time, int... bands) {
        OutletOffice x = Scene.withGoodCards();
        for (int b = 0; b < bands.length; b += 3) {
            x.band(bands[b], bands[b + 1], bands[b + 2]);
        }
        passTo(x, time);
        Scene.begin(x, 1, 320, 1, 1);
        x.pass(1);
        x.leave(1);
        Scene.deliver(x, 1);
        DUE.is("two watt-hours", 2, x.bill(0, 4));
        return x.bill(0, 3) / 2;
    }

    private static void noBand() {
        DUE.is("no band at 0", 0, priceAt(0));
        DUE.is("no band at noon", 0, priceAt(DAY / 2));
        DUE.is("a band of price 0", 0, priceAt(0, 0, 0, 0));
        DUE.is("one band, the first", 2, priceAt(0, 0, 0, 20000));
        DUE.is("one band, the last", 2, priceAt(0, 3, 0, 20000));
    }

    private static void bandAtItsMinute() {
        int[] bands = {0, 0, 10000, 1, 600, 20000};
        DUE.is("599 minutes", 1, priceAt(599 * 60, bands));
        DUE.is("599 minutes and 59 seconds", 1, priceAt(600 * 60 - 1, bands));
        DUE.is("600 minutes", 2, priceAt(600 * 60, bands));
        DUE.is("600 minutes and 1 second", 2, priceAt(600 * 60 + 1, bands));
        DUE.is("601 minutes", 2, priceAt(601 * 60, bands));
        int[] four = {3, 10, 10000, 1, 20, 20000, 0, 30, 30000, 2, 40, 40000};
        DUE.is("before all four", 4, priceAt(9 * 60, four));
        DUE.is("at the first of four", 1, priceAt(10 * 60, four));
        DUE.is("before the second", 1, priceAt(20 * 60 - 1, four));
        DUE.is("at the second of four", 2, priceAt(20 * 60, four));
        DUE.is("before the third", 2, priceAt(30 * 60 - 1, four));
        DUE.is("at the third of four", 3, priceAt(30 * 60, four));
        DUE.is("before the fourth", 3, priceAt(40 * 60 - 1, four));
        DUE.is("at the fourth of four", 4, priceAt(40 * 60, four));
        DUE.is("after the fourth", 4, priceAt(DAY - 1, four));
    }

    private static void onlyLaterBands() {
        DUE.is("one later band", 3, priceAt(0, 2, 1, 30000));
        DUE.is("a second before it", 3, priceAt(59, 2, 1, 30000));
        DUE.is("at it", 3, priceAt(60, 2, 1, 30000));
        int[] later = {0, 700, 10000, 1, 900, 20000, 2, 800, 30000};
        DUE.is("the greatest of all", 2, priceAt(0, later));
        DUE.is("a second before the first of them", 2, priceAt(700 * 60 - 1, later));
        DUE.is("at the first of them", 1, priceAt(700 * 60, later));
    }

    private static void bandsOfOneMinute() {
        int[] same = {3, 600, 30000, 1, 600, 10000, 2, 600, 20000, 0, 599, 40000};
        DUE.is("the least number of those not above", 1, priceAt(600 * 60, same));
        DUE.is("the one before", 4, priceAt(600 * 60 - 1, same));
        DUE.is("the least number of the greatest", 1, priceAt(0, same));
        DUE.is("the first of all four", 4, priceAt(0, 3, 0, 10000, 2, 0, 20000, 1, 0, 30000, 0, 0, 40000));
        DUE.is("set in the order of numbers", 4, priceAt(0, 0, 0, 40000, 1, 0, 30000, 2, 0, 20000));
    }

    private static void firstAndLastMinute() {
        int[] bands = {0, 1439, 20000, 1, 0, 10000};
        DUE.is("minute 0", 1, priceAt(0, bands));
        DUE.is("minute 1438", 1, priceAt(1439 * 60 - 1, bands));
        DUE.is("minute 1439", 2, priceAt(1439 * 60, bands));
        DUE.is("the last second of the day", 2, priceAt(DAY - 1, bands));
        DUE.is("the next day", 1, priceAt(DAY, bands));
        DUE.is("minute 1439 holds until minute 1", 2, priceAt(59, 0, 1439, 20000, 1, 1, 10000));
        DUE.is("minute 1", 1, priceAt(60, 0, 1439, 20000, 1, 1, 10000));
    }

    private static void daysGoRound() {
        int[] bands = {0, 600, 20000, 1, 60, 10000};
        DUE.is("before the first band of the second day", 2, priceAt(DAY + 3600 - 1, bands));
        DUE.is("at the first band of the second day", 1, priceAt(DAY + 3600, bands));
        DUE.is("at the second band of the tenth day", 2, priceAt(9 * DAY + 36000, bands));
        DUE.is("a second before", 1, priceAt(9 * DAY + 36000 - 1, bands));
    }

    private static void bandSetAgain() {
        DUE.is("another price", 2, priceAt(0, 0, 0, 10000, 0, 0, 20000));
        DUE.is("another minute", 3, priceAt(0, 0, 0, 10000, 1, 5, 30000, 0, 5, 20000, 0, 4, 20000));
        DUE.is("the same band above another", 2, priceAt(360, 0, 0, 10000, 1, 5, 30000, 0, 6, 20000));
    }

    private static void pricesOf0AndTheMost() {
        DUE.is("the most", 10, priceAt(0, 0, 0, 100000));
        DUE.is("nothing, though another band has a price", 0, priceAt(0, 0, 0, 0, 1, 1, 100000));
        DUE.is("nothing of the band before", 0, priceAt(60, 0, 0, 100000, 1, 1, 0));
    }

    /** A reading is priced by the time of the message before it, not by its own. */
    private static void priceAtTheTimeBefore() {
        OutletOffice x = Scene.withGoodCards();
        x.band(0, 0, 1);
        x.band(1, 1, 1000);
        x.band(2, 2, 100000);
        passTo(x, 59);
        Scene.begin(x, 0, 320, 1, 1000);
        x.pass(1);
        x.carry(0);
        x.carry(0);
        x.pass(1);
        x.carry(0);
        // 7360 watt-seconds until 60, 441600 more until 120.
        DUE.is("from 59 to 60", 2, x.open(0));
        x.carry(0);
        x.pass(59);
        x.carry(0);
        x.carry(0);
        DUE.is("from 60 to 120", 2 + 122 * 1000, x.open(0));
        x.leave(0);
        x.pass(1);
        x.carry(0);
        DUE.is("nothing from 120 to 120", 12, x.bill(0, 3));
        DUE.is("watt-hours", 124, x.bill(0, 4));
    }

    /** The watt-hours of a first session at so many tenths for so many seconds. */
    private static int wattHours(int tenths, int seconds) {
        OutletOffice x = Scene.withGoodCards();
        Scene.begin(x, 0, tenths, 1, 100000);
        x.pass(seconds);
        x.leave(0);
        Scene.deliver(x, 0);
        return x.bill(0, 4);
    }

    private static void wattHoursAreCutOff() {
        DUE.is("nothing", 0, wattHours(320, 0));
        DUE.is("1380 watt-seconds", 0, wattHours(60, 1));
        DUE.is("3588 watt-seconds", 0, wattHours(78, 2));
        DUE.is("3611 watt-seconds", 1, wattHours(157, 1));
        DUE.is("7199 watt-seconds", 1, wattHours(313, 1));
        DUE.is("7222 watt-seconds", 2, wattHours(314, 1));
        DUE.is("23 less than 23 watt-hours", 22, wattHours(61, 59));
        DUE.is("just 23 watt-hours", 23, wattHours(100, 36));
        DUE.is("23 more than 23 watt-hours", 23, wattHours(277, 13));
    }

    private static void wattHoursFromTheStart() {
        OutletOffice x = Scene.withGoodCards();
        x.band(0, 0, 10000);
        Scene.begin(x, 0, 313, 1, 100);
        x.pass(1);
        x.show(0, 0);
        x.show(0, 0);
        x.want(0, 60);
        x.pass(1);
        x.show(0, 0);
        Scene.deliver(x, 0);
        DUE.is("from 0 to 7199", 1, x.bill(0, 4));
        // What the first session left of a watt-hour is the second one's.
        DUE.is("from 7199 to 8579", 1, x.bill(1, 4));
        DUE.is("each billed once", 2, x.total(0));
    }

    private static void startFees() {
        for (int fee : new int[] {0, 1, 999999, 1000000}) {
            OutletOffice x = Scene.withGoodCards();
            x.fees(fee, 0);
            Scene.begin(x, 0, 0, 1, 1);
            x.pass(1);
            DUE.is("not yet", -1, x.open(0));
            x.carry(0);
            DUE.is("start fee " + fee, fee, x.open(0));
        }
    }

    /** The cents of a session that ends so many seconds after its car was full, at a cent for a minute. */
    private static int idleCents(int seconds) {
        OutletOffice x = Scene.withGoodCards();
        x.fees(0, 10000);
        Scene.begin(x, 0, 320, 1, 1);
        x.pass(1);
        DUE.is("full", 2, x.about(0, 4));
        x.pass(seconds);
        x.show(0, 0);
        Scene.deliver(x, 0);
        return x.bill(0, 3);
    }

    private static void idleBy60IsCutOff() {
        DUE.is("0 seconds", 0, idleCents(0));
        DUE.is("1 second", 0, idleCents(1));
        DUE.is("59 seconds", 0, idleCents(59));
        DUE.is("60 seconds", 1, idleCents(60));
        DUE.is("61 seconds", 1, idleCents(61));
        DUE.is("119 seconds", 1, idleCents(119));
        DUE.is("120 seconds", 2, idleCents(120));
        DUE.is("a day", 1440, idleCents(DAY));
    }

    private static void idleOfNothing() {
        OutletOffice x = Scene.withGoodCards();
        x.fees(0, 1000000);
        Scene.begin(x, 0, 0, 1, 1);
        Scene.begin(x, 2, 320, 1, 1);
        Scene.begin(x, 4, 320, 1, 1);
        x.pass(180);
        x.power(2, false);
        x.pass(180);
        x.power(2, true);
        x.show(0, 0);
        x.show(4, 4);
        for (int p = 0; p < 6; p += 2) {
            Scene.deliver(x, p);
        }
        DUE.is("a car that never was full", 0, x.total(0));
        DUE.is("a session that power ended", 0, x.total(2));
        DUE.is("a session that a card ended, 359 seconds", 500, x.total(4));
    }

    private static void idleFees() {
        for (int fee : new int[] {0, 1, 999999, 1000000}) {
            OutletOffice x = Scene.withGoodCards();
            x.fees(5000, fee);
            Scene.begin(x, 0, 320, 1, 1);
            x.pass(1);
            x.pass(60);
            x.leave(0);
            Scene.deliver(x, 0);
            DUE.is("idle fee " + fee, (5000 + fee + 5000) / 10000, x.bill(0, 3));
        }
    }

    private static int centsOf(int sum) {
        OutletOffice x = Scene.withGoodCards();
        x.fees(sum, 0);
        Scene.begin(x, 0, 0, 1, 1);
        x.leave(0);
        Scene.deliver(x, 0);
        DUE.is("the total too", x.bill(0, 3), x.total(0));
        return x.bill(0, 3);
    }

    private static void centsAreRounded() {
        int[][] rows = {
            {0, 0}, {1, 0}, {4999, 0}, {5000, 1}, {5001, 1}, {9999, 1}, {10000, 1}, {14999, 1}, {15000, 2},
            {994999, 99}, {995000, 100}, {999999, 100}, {1000000, 100},
        };
        for (int[] row : rows) {
            DUE.is("a sum of " + row[0], row[1], centsOf(row[0]));
        }
    }

    /** Two bills of a card that each are half a cent, or just below it. */
    private static void totalsAreOfCents() {
        for (int below = 0; below < 2; below++) {
            OutletOffice x = Scene.withGoodCards();
            x.fees(5000 - below, 0);
            for (int p = 0; p < 6; p += 5) {
                x.car(p, 0, 1, 1);
                x.show(p, 15);
                x.leave(p);
                Scene.deliver(x, p);
            }
            DUE.is("two bills", 2, x.bills());
            DUE.is("rounded one by one", below == 0 ? 2 : 0, x.total(15));
            DUE.is("another card", 0, x.total(14));
        }
    }

    private static void startTakenInBefore() {
        OutletOffice x = Scene.withGoodCards();
        x.fees(11, 0);
        Scene.begin(x, 0, 0, 1, 1);
        x.pass(1);
        x.carry(0);
        x.lose(0);
        x.fees(22, 0);
        x.pass(20);
        DUE.is("the call again", 1, x.carry(0));
        DUE.is("the bill stays as it was", 11, x.open(0));
        DUE.is("an answer all the same", 2, x.carry(0));
        DUE.is("the message goes", 0, x.about(0, 0));
    }

    private static void readingTakenInBefore() {
        OutletOffice x = Scene.withGoodCards();
        x.band(0, 0, 100);
        Scene.begin(x, 0, 320, 1, 1);
        x.pass(60);
        x.carry(0);
        x.carry(0);
        x.pass(1);
        for (int time = 0; time < 3; time++) {
            DUE.is("the call", 1, x.carry(0));
            DUE.is("two watt-hours once", 200, x.open(0));
            x.line(0, false);
            x.line(0, true);
            x.pass(20);
        }
        x.carry(0);
        x.carry(0);
        DUE.is("the message goes, the reading of 120 is next", 3, x.about(0, 5));
    }

    private static void stopTakenInBefore() {
        OutletOffice x = Scene.withGoodCards();
        x.fees(10000, 0);
        Scene.begin(x, 0, 0, 1, 1);
        x.leave(0);
        x.pass(1);
        x.carry(0);
        x.carry(0);
        x.pass(1);
        for (int time = 0; time < 3; time++) {
            DUE.is("the call", 1, x.carry(0));
            DUE.is("one bill", 1, x.bills());
            DUE.is("one cent", 1, x.total(0));
            DUE.is("none open", -1, x.open(0));
            x.lose(0);
            x.pass(20);
        }
        // The next session's start has the next number and is taken in.
        Scene.begin(x, 0, 0, 1, 1);
        Scene.deliver(x, 0);
        DUE.is("the next bill is open", 10000, x.open(0));
        DUE.is("one is closed", 1, x.bills());
    }

    private static void lostCallIsTakenInLater() {
        OutletOffice x = Scene.withGoodCards();
        x.fees(11, 0);
        Scene.begin(x, 0, 0, 1, 1);
        x.pass(1);
        x.lose(0);
        x.pass(20);
        DUE.is("not taken in", -1, x.open(0));
        x.fees(22, 0);
        x.carry(0);
        DUE.is("taken in, with the fee of now", 22, x.open(0));
    }

    private static void settingsOfTheTakingIn() {
        OutletOffice x = Scene.withGoodCards();
        x.fees(11, 10000);
        x.band(0, 0, 10000);
        Scene.begin(x, 0, 320, 1, 1);
        x.pass(1);
        x.pass(60);
        x.leave(0);
        x.fees(0, 30000);
        x.band(0, 0, 20000);
        Scene.deliver(x, 0);
        DUE.is("two watt-hours and a minute, all by what is set now", 2 * 2 + 3, x.bill(0, 3));
        x.fees(50000, 50000);
        x.band(0, 0, 0);
        DUE.is("a closed bill stays", 7, x.bill(0, 3));
        DUE.is("and its total", 7, x.total(0));
    }

    private static void openOrNot() {
        OutletOffice x = Scene.withGoodCards();
        DUE.is("none at first", -1, x.open(5));
        Scene.begin(x, 5, 0, 1, 1);
        DUE.is("none when a session begins", -1, x.open(5));
        x.pass(1);
        DUE.is("none while the start is under way", -1, x.open(5));
        x.carry(5);
        DUE.is("a bill of 0", 0, x.open(5));
        DUE.is("of this point alone", -1, x.open(3));
        x.carry(5);
        x.leave(5);
        DUE.is("open though the session ended", 0, x.open(5));
        x.pass(1);
        x.carry(5);
        DUE.is("closed by the stop", -1, x.open(5));
    }

    private static void billsByNumber() {
        OutletOffice x = Scene.withGoodCards();
        DUE.noIndex("bill 0 of none", () -> x.bill(0, 0));
        DUE.noIndex("bill 0 of none, no such field", () -> x.bill(0, 5));
        for (int k = 0; k < 3; k++) {
            int point = 5 - 2 * k;
            x.car(point, 0, 1, 1);
            x.show(point, k);
            x.leave(point);
            int bills = k;
            DUE.noIndex("a bill that is not closed yet", () -> x.bill(bills, 0));
            Scene.deliver(x, point);
            DUE.is("bills", k + 1, x.bills());
            DUE.is("point", point, x.bill(k, 0));
            DUE.is("session", 1, x.bill(k, 1));
            DUE.is("card", k, x.bill(k, 2));
            DUE.noIndex("one too many", () -> x.bill(bills + 1, 0));
        }
        DUE.is("the first stays", 5, x.bill(0, 0));
        DUE.noIndex("bill(-1, 0)", () -> x.bill(-1, 0));
        DUE.noArgument("bill(2, 5)", () -> x.bill(2, 5));
        DUE.noArgument("bill(2, -1)", () -> x.bill(2, -1));
        DUE.noIndex("bill(3, 5)", () -> x.bill(3, 5));
    }

    private static void cardThatBegan() {
        OutletOffice x = Scene.withGoodCards();
        x.card(4, 1, 9);
        x.card(6, 1, 9);
        x.fees(10000, 0);
        x.car(0, 0, 1, 1);
        x.show(0, 4);
        DUE.is("ended by another of the group", 2, x.show(0, 6));
        Scene.deliver(x, 0);
        DUE.is("the card that began", 4, x.bill(0, 2));
        DUE.is("pays", 1, x.total(4));
        DUE.is("the other does not", 0, x.total(6));
    }

    /** As many bills as 512 calls can close, which is fewer than the 128 that are kept. */
    private static void mostBills() {
        OutletOffice x = new OutletOffice();
        x.card(0, 1, 0);
        x.fees(10000, 0);
        for (int p = 0; p < 6; p++) {
            x.car(p, 0, 1, 1);
        }
        for (int round = 0; round < 13; round++) {
            for (int p = 0; p < 6; p++) {
                x.show(p, 0);
                x.show(p, 0);
            }
            carryAll(x);
            carryAll(x);
        }
        DUE.is("bills", 78, x.bills());
        DUE.is("the last is of point 5", 5, x.bill(77, 0));
        DUE.is("and of its session 13", 13, x.bill(77, 1));
        DUE.is("the cents of all", 78, x.total(0));
        DUE.noIndex("no more of them", () -> x.bill(78, 0));
    }

    private static void carryAll(OutletOffice x) {
        x.pass(1);
        for (int p = 0; p < 6; p++) {
            x.carry(p);
            x.carry(p);
        }
    }

    /** The greatest hunger at the greatest price, and days of the greatest idle fee. */
    private static void theGreatestBill() {
        OutletOffice x = Scene.withGoodCards();
        x.fees(1000000, 1000000);
        x.band(0, 0, 100000);
        Scene.begin(x, 0, 320, 9, 100000);
        passTo(x, 100 * DAY);
        x.leave(0);
        Scene.deliver(x, 0);
        // Full from 48914 on: 100001 watt-hours and 143184 minutes.
        DUE.is("watt-hours", 100001, x.bill(0, 4));
        DUE.is("cents", 100 + 1000010 + 100 * 143184, x.bill(0, 3));
        DUE.is("total", 100 + 1000010 + 100 * 143184, x.total(0));
    }
}
