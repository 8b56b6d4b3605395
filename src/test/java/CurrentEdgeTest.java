/** How a limit is shared, at each number that the document names and on both sides of it. */
public final class CurrentEdgeTest {
    private static final Due DUE = new Due();

    public static void main(String[] args) {
        activeFrom60();
        activeFrom60WithoutLine();
        notActiveIsNotLookedAt();
        safeIs0Below60();
        safeIsCutOff();
        safeOrWhatIsWanted();
        leftIsLessSafeForEach();
        leftBy60IsCutOff();
        leftBy60BesidePointsWithoutLine();
        leastOf60();
        levelTimesWeight();
        nothingLeftOver();
        levelUpTo320();
        wantsIsTheMost();
        turnsAt900();
        turnsGoRound();
        turnsOfADay();
        turnsWithinALongCall();
        limitsOf0And2000();
        DUE.end();
    }

    /** An office whose first site has running sessions at the limit; want and weight of 0, 2, 4. */
    private static OutletOffice site(int limit, int... wantsAndWeights) {
        OutletOffice x = Scene.withGoodCards();
        x.limit(0, limit);
        for (int k = 0; 2 * k < wantsAndWeights.length; k++) {
            Scene.begin(x, 2 * k, wantsAndWeights[2 * k], wantsAndWeights[2 * k + 1], 100000);
        }
        return x;
    }

    private static void takes(String when, OutletOffice x, int first, int second, int third) {
        DUE.is(when + ", point 0", first, x.current(0));
        DUE.is(when + ", point 2", second, x.current(2));
        DUE.is(when + ", point 4", third, x.current(4));
        DUE.is(when + ", together", first + second + third, x.sum(0));
    }

    private static void activeFrom60() {
        OutletOffice x = site(480, 0, 1);
        int[] wants = {0, 1, 59, 60, 61, 319, 320};
        int[] due = {0, 0, 0, 60, 61, 319, 320};
        for (int k = 0; k < wants.length; k++) {
            x.want(0, wants[k]);
            takes("wants " + wants[k], x, due[k], 0, 0);
        }
    }

    private static void activeFrom60WithoutLine() {
        OutletOffice x = site(480, 0, 1);
        x.line(0, false);
        int[] wants = {0, 1, 59, 60, 61};
        int[] due = {0, 0, 0, 60, 61};
        for (int k = 0; k < wants.length; k++) {
            x.want(0, wants[k]);
            takes("without line, wants " + wants[k], x, due[k], 0, 0);
        }
    }

    private static void notActiveIsNotLookedAt() {
        OutletOffice x = site(60, 59, 1, 320, 1);
        takes("59 leaves the place to the next", x, 0, 60, 0);
        x.want(0, 60);
        takes("60 takes the place", x, 60, 0, 0);
        x.power(0, false);
        takes("no power leaves the place", x, 0, 60, 0);
    }

    private static void safeIs0Below60() {
        OutletOffice x = site(480, 320, 1, 320, 1);
        x.line(0, false);
        x.limit(0, 179);
        takes("a third is 59", x, 0, 179, 0);
        x.limit(0, 180);
        takes("a third is 60", x, 60, 120, 0);
        x.limit(0, 183);
        takes("a third is 61", x, 61, 122, 0);
        x.limit(0, 0);
        takes("a third is 0", x, 0, 0, 0);
    }

    private static void safeIsCutOff() {
        OutletOffice x = site(480, 320, 1, 320, 1);
        x.line(0, false);
        x.limit(0, 181);
        takes("181 / 3", x, 60, 121, 0);
        x.limit(0, 182);
        takes("182 / 3", x, 60, 122, 0);
        x.limit(0, 299);
        takes("299 / 3", x, 99, 200, 0);
        x.limit(0, 300);
        takes("300 / 3", x, 100, 200, 0);
        x.limit(0, 301);
        takes("301 / 3", x, 100, 201, 0);
    }

    private static void safeOrWhatIsWanted() {
        OutletOffice x = site(300, 99, 1);
        x.line(0, false);
        takes("a tenth less than safe", x, 99, 0, 0);
        x.want(0, 100);
        takes("safe", x, 100, 0, 0);
        x.want(0, 101);
        takes("a tenth more than safe", x, 100, 0, 0);
        x.limit(0, 2000);
        x.want(0, 320);
        takes("safe is 666", x, 320, 0, 0);
    }

    private static void leftIsLessSafeForEach() {
        OutletOffice x = site(400, 320, 1);
        takes("all have line", x, 320, 0, 0);
        x.line(2, false);
        takes("less 133", x, 267, 0, 0);
        x.line(4, false);
        takes("less 266", x, 134, 0, 0);
        x.line(1, false);
        x.line(3, false);
        takes("the other site's are not counted", x, 134, 0, 0);
        x.line(0, false);
        takes("its own", x, 133, 0, 0);
        x.line(2, true);
        x.line(4, true);
        takes("still its own", x, 133, 0, 0);
        x.line(0, true);
        takes("all again", x, 320, 0, 0);
    }

    private static void leftBy60IsCutOff() {
        OutletOffice x = site(480, 320, 1, 320, 1, 320, 1);
        int[][] rows = {
            {0, 0, 0, 0}, {1, 0, 0, 0}, {59, 0, 0, 0}, {60, 60, 0, 0}, {61, 61, 0, 0}, {119, 119, 0, 0},
            {120, 60, 60, 0}, {121, 60, 60, 0}, {122, 61, 61, 0}, {179, 89, 89, 0}, {180, 60, 60, 60},
            {181, 60, 60, 60}, {182, 60, 60, 60}, {183, 61, 61, 61}, {239, 79, 79, 79}, {240, 80, 80, 80},
        };
        for (int[] row : rows) {
            x.limit(0, row[0]);
            takes("limit " + row[0], x, row[1], row[2], row[3]);
        }
    }

    private static void leftBy60BesidePointsWithoutLine() {
        OutletOffice x = site(480, 320, 1, 320, 1, 320, 1);
        x.line(4, false);
        x.limit(0, 119);
        takes("119 left", x, 119, 0, 0);
        x.limit(0, 120);
        takes("120 left", x, 60, 60, 0);
        x.limit(0, 179);
        takes("179 left", x, 89, 89, 0);
        x.limit(0, 180);
        takes("180 less 60 left", x, 60, 60, 60);
        x.line(2, false);
        takes("180 less 120 left", x, 60, 60, 60);
        x.limit(0, 179);
        takes("179 left for one", x, 179, 0, 0);
        x.limit(0, 59);
        takes("59 left for one", x, 0, 0, 0);
        x.limit(0, 60);
        takes("60 left for one", x, 60, 0, 0);
    }

    private static void leastOf60() {
        int[][] rows = {
            {177, 60, 116}, {178, 60, 118}, {179, 60, 118}, {180, 60, 120}, {181, 60, 120}, {182, 60, 120},
            {183, 61, 122}, {120, 60, 60}, {121, 60, 60}, {122, 60, 62},
        };
        for (int[] row : rows) {
            takes("weights 1 and 2, limit " + row[0], site(row[0], 320, 1, 320, 2), row[1], row[2], 0);
        }
    }

    private static void levelTimesWeight() {
        // With weight 9 there is nothing between 6 * 9, which is below 60, and 7 * 9.
        takes("62 of weight 9", site(62, 320, 9), 60, 0, 0);
        takes("63 of weight 9", site(63, 320, 9), 63, 0, 0);
        takes("71 of weight 9", site(71, 320, 9), 63, 0, 0);
        takes("72 of weight 9", site(72, 320, 9), 72, 0, 0);
        takes("62 of weight 1", site(62, 320, 1), 62, 0, 0);
        takes("319 of weight 9", site(319, 320, 9), 315, 0, 0);
        takes("320 of weight 9", site(320, 320, 9), 320, 0, 0);
        takes("weights 1, 5 and 9", site(480, 320, 1, 320, 5, 320, 9), 60, 150, 270);
        takes("weights 1, 5 and 9, one more", site(494, 320, 1, 320, 5, 320, 9), 60, 155, 279);
        takes("weights 1, 5 and 9, not enough", site(493, 320, 1, 320, 5, 320, 9), 60, 150, 270);
    }

    private static void nothingLeftOver() {
        takes("together one too much", site(299, 320, 1, 320, 1, 320, 1), 99, 99, 99);
        takes("together just the limit", site(300, 320, 1, 320, 1, 320, 1), 100, 100, 100);
        takes("together one and two less", site(302, 320, 1, 320, 1, 320, 1), 100, 100, 100);
    }

    private static void levelUpTo320() {
        int[][] rows = {{637, 318}, {638, 319}, {639, 319}, {640, 320}, {641, 320}, {2000, 320}};
        for (int[] row : rows) {
            takes("two, limit " + row[0], site(row[0], 320, 1, 320, 1), row[1], row[1], 0);
        }
        takes("three, limit 959", site(959, 320, 1, 320, 1, 320, 1), 319, 319, 319);
        takes("three, limit 960", site(960, 320, 1, 320, 1, 320, 1), 320, 320, 320);
        takes("three, limit 961", site(961, 320, 1, 320, 1, 320, 1), 320, 320, 320);
        takes("319 beside one that has all", site(639, 320, 1, 320, 9), 319, 320, 0);
        takes("320 beside one that has all", site(640, 320, 1, 320, 9), 320, 320, 0);
        takes("one alone, limit 319", site(319, 320, 1), 319, 0, 0);
        takes("one alone, limit 321", site(321, 320, 1), 320, 0, 0);
    }

    private static void wantsIsTheMost() {
        takes("wants one less than its part", site(200, 320, 1, 99, 1), 101, 99, 0);
        takes("wants its part", site(200, 320, 1, 100, 1), 100, 100, 0);
        takes("wants one more than its part", site(200, 320, 1, 101, 1), 100, 100, 0);
        takes("wants the least", site(200, 320, 1, 60, 9), 140, 60, 0);
        takes("wants one more than the least", site(200, 320, 1, 61, 9), 139, 61, 0);
        takes("all want the least", site(2000, 60, 9, 60, 9, 60, 9), 60, 60, 60);
    }

    private static void turnsAt900() {
        OutletOffice x = site(60, 320, 1, 320, 1, 320, 1);
        takes("at 0", x, 60, 0, 0);
        x.pass(899);
        takes("at 899", x, 60, 0, 0);
        x.pass(1);
        takes("at 900", x, 0, 60, 0);
        x.pass(1);
        takes("at 901", x, 0, 60, 0);
        x.pass(898);
        takes("at 1799", x, 0, 60, 0);
        x.pass(1);
        takes("at 1800", x, 0, 0, 60);
        x.pass(899);
        takes("at 2699", x, 0, 0, 60);
        x.pass(1);
        takes("at 2700", x, 60, 0, 0);
        DUE.is("each had a turn of 900 seconds, point 0", 900 * 60 * 23, x.meter(0));
        DUE.is("each had a turn of 900 seconds, point 2", 900 * 60 * 23, x.meter(2));
        DUE.is("each had a turn of 900 seconds, point 4", 900 * 60 * 23, x.meter(4));
    }

    private static void turnsGoRound() {
        OutletOffice x = site(120, 320, 1, 320, 1, 320, 1);
        takes("0, 2", x, 60, 60, 0);
        x.pass(900);
        takes("2, 4", x, 0, 60, 60);
        x.want(4, 0);
        takes("2, then round to 0", x, 60, 60, 0);
        x.want(2, 59);
        takes("round to 0 alone", x, 120, 0, 0);
        x.want(2, 320);
        x.want(4, 320);
        x.pass(900);
        takes("4, then round to 0", x, 60, 0, 60);
        x.want(0, 0);
        takes("4, then round to 2", x, 0, 60, 60);
        x.line(4, false);
        takes("one without line is passed over", x, 0, 120, 0);
    }

    private static void turnsOfADay() {
        OutletOffice x = site(60, 320, 1, 320, 1, 320, 1);
        x.pass(86399);
        takes("at 86399", x, 0, 0, 60);
        x.pass(1);
        takes("at 86400", x, 60, 0, 0);
        x.pass(900);
        takes("at 87300", x, 0, 60, 0);
    }

    private static void turnsWithinALongCall() {
        OutletOffice x = site(60, 320, 1, 320, 1, 320, 1);
        // After 21 minutes there is no room for a reading any more; the turns go on.
        x.pass(85500);
        DUE.is("32 turns, point 0", 32 * 900 * 60 * 23L, x.meter(0));
        DUE.is("32 turns, point 2", 32 * 900 * 60 * 23L, x.meter(2));
        DUE.is("31 turns, point 4", 31 * 900 * 60 * 23L, x.meter(4));
    }

    private static void limitsOf0And2000() {
        OutletOffice x = site(0, 320, 9, 320, 9, 320, 9);
        takes("limit 0", x, 0, 0, 0);
        x.line(0, false);
        takes("limit 0, one without line", x, 0, 0, 0);
        x.pass(60);
        DUE.is("nothing metered", 0, x.meter(0) + x.meter(2) + x.meter(4));
        x.limit(0, 2000);
        takes("limit 2000, one without line", x, 320, 320, 320);
        x.line(0, true);
        takes("limit 2000", x, 320, 320, 320);
    }
}
