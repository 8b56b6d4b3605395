/** Promises 17 to 19: current, sum, meter, and how a site's limit is shared. */
public final class CurrentTest {
    private static final Due DUE = new Due();

    public static void main(String[] args) {
        wrongInputs();
        onlyActivePointsTake();
        byWeights();
        leastOf60();
        turnsOf15Minutes();
        safeWithoutLine();
        linelessPointsKeepTheirShare();
        levelEndsAt320();
        meterGrows();
        DUE.end();
    }

    private static void wrongInputs() {
        OutletOffice x = new OutletOffice();
        DUE.noIndex("current(6)", () -> x.current(6));
        DUE.noIndex("current(-1)", () -> x.current(-1));
        DUE.noIndex("sum(2)", () -> x.sum(2));
        DUE.noIndex("sum(-1)", () -> x.sum(-1));
        DUE.noIndex("meter(6)", () -> x.meter(6));
        DUE.noIndex("meter(-1)", () -> x.meter(-1));
    }

    private static void onlyActivePointsTake() {
        OutletOffice x = Scene.withGoodCards();
        x.car(0, 300, 1, 5);
        DUE.same("no session", 0, () -> x.current(0));
        x.show(0, 0);
        DUE.same("a session", 300, () -> x.current(0));
        x.want(0, 59);
        DUE.same("wants too little", 0, () -> x.current(0));
        x.want(0, 60);
        DUE.same("wants enough", 60, () -> x.current(0));
        x.power(0, false);
        DUE.same("no power", 0, () -> x.current(0));
    }

    private static void takes(String when, OutletOffice x, int site, int... due) {
        int all = 0;
        for (int k = 0; k < 3; k++) {
            int point = site + 2 * k;
            DUE.same(when + ", point " + point, due[k], () -> x.current(point));
            all += due[k];
        }
        int together = all;
        DUE.same(when + ", together", together, () -> x.sum(site));
    }

    private static void byWeights() {
        OutletOffice x = Scene.withGoodCards();
        Scene.begin(x, 0, 320, 1, 100);
        Scene.begin(x, 2, 320, 3, 100);
        Scene.begin(x, 4, 320, 5, 100);
        takes("v = 52", x, 0, 60, 156, 260);
        takes("the other site", x, 1, 0, 0, 0);
        x.limit(0, 1000);
        takes("all they want", x, 0, 320, 320, 320);
        x.limit(0, 900);
        takes("v = 260", x, 0, 260, 320, 320);
        Scene.begin(x, 1, 120, 5, 100);
        Scene.begin(x, 3, 160, 3, 100);
        Scene.begin(x, 5, 200, 1, 100);
        takes("just enough", x, 1, 120, 160, 200);
    }

    private static void leastOf60() {
        OutletOffice x = Scene.withGoodCards();
        Scene.begin(x, 0, 320, 9, 100);
        Scene.begin(x, 2, 320, 1, 100);
        Scene.begin(x, 4, 60, 1, 100);
        x.limit(0, 180);
        takes("60 each", x, 0, 60, 60, 60);
        x.limit(0, 179);
        takes("two of them", x, 0, 117, 60, 0);
        x.limit(0, 119);
        takes("one of them", x, 0, 117, 0, 0);
        x.limit(0, 60);
        takes("one with the least", x, 0, 60, 0, 0);
        x.limit(0, 59);
        takes("none", x, 0, 0, 0, 0);
    }

    private static void turnsOf15Minutes() {
        OutletOffice x = Scene.withGoodCards();
        Scene.begin(x, 1, 320, 1, 100000);
        Scene.begin(x, 3, 320, 1, 100000);
        Scene.begin(x, 5, 320, 1, 100000);
        x.limit(1, 150);
        takes("from 0", x, 1, 75, 75, 0);
        x.pass(899);
        takes("until 899", x, 1, 75, 75, 0);
        x.pass(1);
        takes("from 900", x, 1, 0, 75, 75);
        x.pass(900);
        takes("from 1800", x, 1, 75, 0, 75);
        x.pass(900);
        takes("from 2700", x, 1, 75, 75, 0);
        DUE.same("metered over the turns", 1800 * 75 * 23L, () -> x.meter(3));
        x.want(1, 0);
        takes("one that is not active is passed over", x, 1, 0, 75, 75);
    }

    private static void safeWithoutLine() {
        OutletOffice x = Scene.withGoodCards();
        x.copy(0);
        Scene.begin(x, 0, 320, 1, 100);
        Scene.begin(x, 2, 320, 1, 100);
        x.line(0, false);
        takes("a third of 480", x, 0, 160, 320, 0);
        x.want(0, 70);
        takes("it wants less, its share is kept", x, 0, 70, 320, 0);
        x.limit(0, 299);
        takes("99 and 200", x, 0, 70, 200, 0);
        x.limit(0, 180);
        takes("60 and 120", x, 0, 60, 120, 0);
        x.limit(0, 179);
        takes("below 60 it is 0", x, 0, 0, 179, 0);
    }

    private static void linelessPointsKeepTheirShare() {
        OutletOffice x = Scene.withGoodCards();
        Scene.begin(x, 2, 320, 1, 100);
        x.limit(0, 302);
        x.line(0, false);
        takes("kept for a point without a car", x, 0, 0, 202, 0);
        x.power(4, false);
        takes("not for one with a line and no power", x, 0, 0, 202, 0);
        x.line(4, false);
        takes("kept for one without power", x, 0, 0, 102, 0);
        x.line(2, false);
        takes("all without line", x, 0, 0, 100, 0);
    }

    private static void levelEndsAt320() {
        OutletOffice x = Scene.withGoodCards();
        Scene.begin(x, 0, 320, 1, 100);
        Scene.begin(x, 2, 319, 9, 100);
        x.limit(0, 2000);
        takes("v = 320", x, 0, 320, 319, 0);
    }

    private static void meterGrows() {
        OutletOffice x = Scene.withGoodCards();
        Scene.begin(x, 0, 320, 1, 1);
        Scene.begin(x, 2, 320, 1, 100);
        x.limit(0, 480);
        takes("half each", x, 0, 240, 240, 0);
        x.pass(1);
        DUE.same("5520 of 3600 at once", 2, () -> x.about(0, 4));
        takes("the other has it all", x, 0, 0, 320, 0);
        x.pass(2);
        DUE.same("point 0", 5520, () -> x.meter(0));
        DUE.same("point 2", 5520 + 2 * 7360, () -> x.meter(2));
        DUE.same("point 4", 0, () -> x.meter(4));
        x.leave(2);
        x.pass(5);
        DUE.same("the meter is kept", 5520 + 2 * 7360, () -> x.meter(2));
    }
}
