/**
 * Promises 15 and 22 to 24 at two numbers that 512 calls can't reach: the greatest TIME and the 128 kept
 * bills. The document leaves later answers free; these are what the class gives all the same.
 */
public final class LongUseTest {
    private static final Due DUE = new Due();
    private static final int DAY = 86400;
    private static final int LAST_TIME = 1000000000;
    private static final int KEPT = 128;

    public static void main(String[] args) {
        timeEnds();
        sessionOverTheLastDays();
        billsBeyondTheKept();
        DUE.end();
    }

    private static void passDays(OutletOffice x, int days) {
        for (int k = 0; k < days; k++) {
            x.pass(DAY);
        }
    }

    private static void timeEnds() {
        OutletOffice x = new OutletOffice();
        int days = LAST_TIME / DAY;
        int rest = LAST_TIME % DAY;
        passDays(x, days);
        DUE.same("time() after " + days + " days", LAST_TIME - rest, x::time);
        DUE.noArgument("pass(86400) beyond the last TIME", () -> x.pass(DAY));
        DUE.noArgument("pass(" + (rest + 1) + ") beyond the last TIME", () -> x.pass(rest + 1));
        DUE.same("time() after the refused ones", LAST_TIME - rest, x::time);
        DUE.same("pass(" + (rest - 1) + ")", LAST_TIME - 1, () -> x.pass(rest - 1));
        DUE.noArgument("pass(2) beyond the last TIME", () -> x.pass(2));
        DUE.same("pass(1) to the last TIME", LAST_TIME, () -> x.pass(1));
        DUE.same("pass(0) at the last TIME", LAST_TIME, () -> x.pass(0));
        DUE.noArgument("pass(1) at the last TIME", () -> x.pass(1));
        DUE.noArgument("pass(-1) at the last TIME", () -> x.pass(-1));
        DUE.noArgument("pass(the greatest) at the last TIME", () -> x.pass(Integer.MAX_VALUE));
        DUE.same("time() at the end", LAST_TIME, x::time);
    }

    /** The idle fee of all that time is the greatest sum there is. */
    private static void sessionOverTheLastDays() {
        OutletOffice x = Scene.withGoodCards();
        Scene.begin(x, 0, 320, 1, 1);
        x.fees(1000000, 1000000);
        passDays(x, LAST_TIME / DAY);
        DUE.same("messages", 22, () -> x.about(0, 0));
        DUE.same("show(0, 0)", 2, () -> x.show(0, 0));
        DUE.same("messages with STOP", 23, () -> x.about(0, 0));
        Scene.deliver(x, 0);
        // Full after its first second: 3600 watt-seconds are eaten at 7360 watts.
        long idleMinutes = (LAST_TIME / DAY * DAY - 1) / 60;
        DUE.same("bill(0, 3)", (1000000 + idleMinutes * 1000000 + 5000) / 10000, () -> x.bill(0, 3));
        DUE.same("bill(0, 4)", 2, () -> x.bill(0, 4));
    }

    private static void billsBeyondTheKept() {
        OutletOffice x = Scene.withGoodCards();
        x.fees(10000, 0);
        x.car(3, 0, 1, 1);
        int made = KEPT + 3;
        for (int k = 0; k < made; k++) {
            int closed = k;
            DUE.same("bills()", closed, x::bills);
            DUE.noIndex("bill(" + k + ", 0) before it is closed", () -> x.bill(closed, 0));
            x.show(3, k % 16);
            x.show(3, k % 16);
            Scene.deliver(x, 3);
        }
        DUE.same("bills()", made, x::bills);
        for (int k = 0; k < KEPT; k++) {
            int i = k;
            DUE.same("bill(" + i + ", 0)", 3, () -> x.bill(i, 0));
            DUE.same("bill(" + i + ", 1)", i + 1, () -> x.bill(i, 1));
            DUE.same("bill(" + i + ", 2)", i % 16, () -> x.bill(i, 2));
            DUE.same("bill(" + i + ", 3)", 1, () -> x.bill(i, 3));
            DUE.same("bill(" + i + ", 4)", 0, () -> x.bill(i, 4));
        }
        DUE.noIndex("bill(128, 0), which is not kept", () -> x.bill(KEPT, 0));
        DUE.noIndex("bill(130, 9), which is not kept", () -> x.bill(made - 1, 9));
        DUE.noArgument("bill(127, 5)", () -> x.bill(KEPT - 1, 5));
        // Cards 0, 1 and 2 have a bill more than the others, which is not kept but counted.
        DUE.same("total(2)", 9, () -> x.total(2));
        DUE.same("total(3)", 8, () -> x.total(3));
    }
}
