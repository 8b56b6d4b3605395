/** Promises 3, 4 and 21 to 24: prices, fees, open, bills, bill, total. */
public final class BillTest {
    private static final Due DUE = new Due();

    public static void main(String[] args) {
        wrongInputs();
        wholeBill();
        priceOfTheTimeBefore();
        bandsOfADay();
        settingsOfTheTakingIn();
        idleFee();
        idleFromBeforeTheSession();
        rounding();
        wattHoursOfTheSession();
        orderAndTotals();
        DUE.end();
    }

    private static void wrongInputs() {
        OutletOffice x = Scene.withGoodCards();
        DUE.noIndex("open(6)", () -> x.open(6));
        DUE.noIndex("open(-1)", () -> x.open(-1));
        DUE.noIndex("total(16)", () -> x.total(16));
        DUE.noIndex("total(-1)", () -> x.total(-1));
        DUE.noIndex("bill(0, 0) without a bill", () -> x.bill(0, 0));
        Scene.begin(x, 0, 320, 1, 1);
        Scene.deliver(x, 0);
        DUE.noIndex("an open bill is no closed one", () -> x.bill(0, 0));
        x.leave(0);
        Scene.deliver(x, 0);
        DUE.same("bill(0, 0)", 0, () -> x.bill(0, 0));
        DUE.noArgument("bill(0, 5)", () -> x.bill(0, 5));
        DUE.noArgument("bill(0, -1)", () -> x.bill(0, -1));
        DUE.noIndex("bill(1, 5)", () -> x.bill(1, 5));
        DUE.noIndex("bill(-1, 0)", () -> x.bill(-1, 0));
    }

    private static void wholeBill() {
        OutletOffice x = Scene.withGoodCards();
        x.fees(500000, 2000);
        x.band(0, 0, 250);
        Scene.begin(x, 3, 160, 1, 100);
        DUE.same("not open before the office knows", -1, () -> x.open(3));
        x.pass(1);
        x.carry(3);
        DUE.same("the start fee", 500000, () -> x.open(3));
        x.carry(3);
        x.pass(60);
        x.carry(3);
        // 60 seconds at 3680 watts are 61.3 watt-hours.
        DUE.same("with a reading", 500000 + 61 * 250, () -> x.open(3));
        x.carry(3);
        x.pass(9);
        x.leave(3);
        x.pass(1);
        DUE.same("no bill closed yet", 0, x::bills);
        x.carry(3);
        DUE.same("closed", 1, x::bills);
        DUE.same("no more open", -1, () -> x.open(3));
        int[] due = {3, 1, 3, 52, 71};
        for (int w = 0; w < 5; w++) {
            int what = w;
            DUE.same("bill(0, " + w + ")", due[w], () -> x.bill(0, what));
        }
        DUE.same("total of the card", 52, () -> x.total(3));
        DUE.same("total of another", 0, () -> x.total(2));
    }

    private static void priceOfTheTimeBefore() {
        OutletOffice x = Scene.withGoodCards();
        x.band(0, 0, 1);
        x.band(1, 1, 1000);
        x.band(2, 2, 100000);
        Scene.begin(x, 0, 320, 1, 1000);
        x.pass(1);
        Scene.deliver(x, 0);
        x.pass(59);
        Scene.deliver(x, 0);
        DUE.same("until the first minute", 122, () -> x.open(0));
        x.pass(60);
        Scene.deliver(x, 0);
        DUE.same("until the second", 122 + 123 * 1000L, () -> x.open(0));
    }

    /** The sum of one watt-hour or so that is metered from a time on, at the bands that are set. */
    private static long priceAt(int time, int... bands) {
        OutletOffice x = Scene.withGoodCards();
        for (int b = 0; b + 2 < bands.length; b += 3) {
            x.band(bands[b], bands[b + 1], bands[b + 2]);
        }
        for (int left = time; left > 0; left -= 86400) {
            x.pass(Math.min(left, 86400));
        }
        Scene.begin(x, 0, 320, 1, 1);
        x.pass(60);
        x.carry(0);
        x.carry(0);
        x.pass(1);
        x.carry(0);
        return x.open(0) / 2;
    }

    private static void bandsOfADay() {
        DUE.same("no band", 0, () -> priceAt(0));
        DUE.same("one band holds all day", 7, () -> priceAt(0, 2, 700, 7));
        DUE.same("just before a band", 9, () -> priceAt(35999, 0, 600, 7, 1, 60, 9));
        DUE.same("just at a band", 7, () -> priceAt(36000, 0, 600, 7, 1, 60, 9));
        DUE.same("before the first band the last one", 7, () -> priceAt(3599, 0, 600, 7, 1, 60, 9));
        DUE.same("of several the least number", 5, () -> priceAt(36000, 3, 600, 7, 1, 600, 5, 2, 0, 8));
        DUE.same("of several greatest the least number", 5, () -> priceAt(0, 3, 600, 7, 1, 600, 5, 2, 1, 8));
        DUE.same("the next day", 9, () -> priceAt(86400 + 3600, 0, 600, 7, 1, 60, 9));
        DUE.same("a band set again", 4, () -> priceAt(36000, 0, 600, 7, 1, 60, 9, 0, 1200, 3, 1, 70, 4));
        DUE.same("the last minute of the day before", 6, () -> priceAt(0, 0, 1439, 6, 1, 10, 2));
        DUE.same("the last minute", 6, () -> priceAt(86340, 0, 1439, 6, 1, 0, 2));
    }

    private static void settingsOfTheTakingIn() {
        OutletOffice x = Scene.withGoodCards();
        x.fees(11, 0);
        x.band(0, 0, 3);
        Scene.begin(x, 0, 320, 1, 1);
        x.pass(60);
        x.fees(22, 0);
        x.carry(0);
        DUE.same("the start fee of now", 22, () -> x.open(0));
        x.carry(0);
        x.pass(1);
        x.band(0, 0, 5);
        x.carry(0);
        DUE.same("the price of now", 22 + 2 * 5, () -> x.open(0));
    }

    private static void idleFee() {
        OutletOffice x = Scene.withGoodCards();
        x.fees(0, 10000);
        for (int p = 0; p < 6; p += 2) {
            Scene.begin(x, p, 320, 1, 1);
        }
        // Each takes 160 of 480, 3680 watts, and is full from 1 on.
        x.pass(60);
        x.leave(0);
        x.pass(1);
        x.leave(2);
        x.pass(60);
        x.show(4, 4);
        for (int p = 0; p < 6; p += 2) {
            Scene.deliver(x, p);
        }
        DUE.same("59 seconds idle", 0, () -> x.total(0));
        DUE.same("60 seconds idle", 1, () -> x.total(2));
        DUE.same("120 seconds idle", 2, () -> x.total(4));
        x.car(1, 0, 1, 1);
        x.show(1, 1);
        x.pass(600);
        x.leave(1);
        Scene.deliver(x, 1);
        DUE.same("a car that is not full is not idle", 0, () -> x.total(1));
    }

    private static void idleFromBeforeTheSession() {
        OutletOffice x = Scene.withGoodCards();
        Scene.begin(x, 0, 320, 1, 1);
        x.pass(1);
        x.show(0, 0);
        Scene.deliver(x, 0);
        x.fees(0, 10000);
        int fullSince = 1;
        x.pass(600);
        DUE.same("a session begins with a full car", 1, () -> x.show(0, 9));
        x.pass(30);
        int idle = x.time() - fullSince;
        x.show(0, 9);
        Scene.deliver(x, 0);
        DUE.same("the seconds since the car was full", idle / 60, () -> x.total(9));
    }

    private static int centsOfStartFee(int fee) {
        OutletOffice x = Scene.withGoodCards();
        x.fees(fee, 0);
        Scene.begin(x, 0, 320, 1, 1);
        x.leave(0);
        Scene.deliver(x, 0);
        return x.bill(0, 3);
    }

    private static void rounding() {
        DUE.same("4999", 0, () -> centsOfStartFee(4999));
        DUE.same("5000", 1, () -> centsOfStartFee(5000));
        DUE.same("14999", 1, () -> centsOfStartFee(14999));
        DUE.same("15000", 2, () -> centsOfStartFee(15000));
        DUE.same("1000000", 100, () -> centsOfStartFee(1000000));
    }

    private static void wattHoursOfTheSession() {
        OutletOffice x = Scene.withGoodCards();
        x.band(0, 0, 10000);
        Scene.begin(x, 0, 320, 1, 1);
        x.pass(1);
        x.leave(0);
        Scene.begin(x, 0, 320, 1, 5);
        x.pass(3);
        x.leave(0);
        Scene.deliver(x, 0);
        DUE.same("7360 watt-seconds", 2, () -> x.bill(0, 4));
        // From 7360 to 29440 the meter goes from 2 to 8 watt-hours.
        DUE.same("the second session's own", 6, () -> x.bill(1, 4));
        DUE.same("session 2", 2, () -> x.bill(1, 1));
        DUE.same("its cents", 6, () -> x.bill(1, 3));
    }

    private static void orderAndTotals() {
        OutletOffice x = Scene.withGoodCards();
        x.fees(30000, 0);
        x.car(5, 0, 1, 1);
        x.car(2, 0, 1, 1);
        x.show(5, 7);
        x.show(2, 7);
        x.show(5, 7);
        x.show(2, 7);
        Scene.deliver(x, 2);
        Scene.deliver(x, 5);
        DUE.same("two bills", 2, x::bills);
        DUE.same("in the order of their closing", 2, () -> x.bill(0, 0));
        DUE.same("then the other", 5, () -> x.bill(1, 0));
        DUE.same("of one card", 7, () -> x.bill(1, 2));
        DUE.same("their total", 6, () -> x.total(7));
    }
}
