/** What a second does, at each number that the document names and on both sides of it. */
public final class SecondEdgeTest {
    private static final Due DUE = new Due();

    public static void main(String[] args) {
        meterBy23();
        hungerAbove0();
        hungerAt0();
        hungerBelow0();
        hungerOfOneHourAndOfMost();
        fullFromTheNextSecondOn();
        fullGivesItsPlaceAway();
        fullWithinALongCall();
        hungerFallsOnlyInSessions();
        readingsAt60();
        readingsOfWhatRuns();
        readingsUpTo22();
        readingsGoOnBelow22();
        notSentYet();
        sentAgainAfter20();
        sentAgainWithinOneCall();
        sentAgainAfter20WithoutLine();
        sentAgainAfter20WithoutPower();
        sentAgainAfterALostAnswer();
        notSentWhileUnderWay();
        sentInTheSecondOfTheReading();
        passesOf0AndADay();
        DUE.end();
    }

    private static void meterBy23() {
        OutletOffice x = Scene.withGoodCards();
        Scene.begin(x, 0, 60, 1, 100);
        Scene.begin(x, 1, 320, 1, 100);
        Scene.begin(x, 2, 59, 1, 100);
        DUE.is("before a second", 0, x.meter(0));
        x.pass(0);
        DUE.is("no second", 0, x.meter(0));
        x.pass(1);
        DUE.is("60 tenths", 1380, x.meter(0));
        DUE.is("320 tenths", 7360, x.meter(1));
        DUE.is("59 tenths are not taken", 0, x.meter(2));
    }

    private static void hungerAbove0() {
        OutletOffice x = Scene.withGoodCards();
        // 313 tenths are 7199 watt-seconds of 7200.
        Scene.begin(x, 0, 313, 1, 2);
        x.pass(1);
        DUE.is("1 is left", 1, x.about(0, 4));
        DUE.is("it takes on", 313, x.current(0));
        DUE.yes("it may want", x.want(0, 60));
        x.pass(1);
        DUE.is("less than 0", 2, x.about(0, 4));
        DUE.is("the whole second is metered", 7199 + 1380, x.meter(0));
    }

    private static void hungerAt0() {
        OutletOffice x = Scene.withGoodCards();
        // 23 watt-hours are 36 seconds at 2300 watts, to the watt-second.
        Scene.begin(x, 0, 100, 1, 23);
        Scene.begin(x, 1, 100, 1, 23);
        x.pass(35);
        DUE.is("a second before", 1, x.about(0, 4));
        x.pass(1);
        DUE.is("at 0", 2, x.about(0, 4));
        DUE.no("it may not want", x.want(0, 100));
        x.pass(1);
        DUE.is("nothing more", 82800, x.meter(0));
        x.leave(1);
        Scene.begin(x, 1, 100, 1, 23);
        x.pass(50);
        DUE.is("nor within one call", 2 * 82800, x.meter(1));
    }

    private static void hungerBelow0() {
        OutletOffice x = Scene.withGoodCards();
        // 3600 is 2 * 1794 and 12 more.
        Scene.begin(x, 0, 78, 1, 1);
        x.pass(2);
        DUE.is("12 are left", 1, x.about(0, 4));
        x.pass(1);
        DUE.is("1782 below", 2, x.about(0, 4));
        x.pass(1);
        DUE.is("three seconds", 3 * 1794, x.meter(0));
    }

    private static void hungerOfOneHourAndOfMost() {
        OutletOffice x = Scene.withGoodCards();
        Scene.begin(x, 0, 320, 9, 1);
        Scene.begin(x, 1, 320, 9, 100000);
        x.pass(1);
        DUE.is("1 watt-hour", 2, x.about(0, 4));
        x.pass(48912);
        DUE.is("100000 watt-hours, nearly", 1, x.about(1, 4));
        x.pass(1);
        DUE.is("100000 watt-hours", 2, x.about(1, 4));
        DUE.is("the second that filled it is metered whole", 48914 * 7360L, x.meter(1));
    }

    private static void fullFromTheNextSecondOn() {
        OutletOffice x = Scene.withGoodCards();
        Scene.begin(x, 0, 320, 1, 1);
        Scene.begin(x, 2, 320, 1, 100);
        x.pass(1);
        DUE.is("both had half in that second, point 0", 240 * 23, x.meter(0));
        DUE.is("both had half in that second, point 2", 240 * 23, x.meter(2));
        DUE.is("then the full one takes nothing", 0, x.current(0));
        DUE.is("and the other more", 320, x.current(2));
    }

    private static void fullGivesItsPlaceAway() {
        OutletOffice x = Scene.withGoodCards();
        x.limit(0, 60);
        Scene.begin(x, 0, 60, 1, 23);
        Scene.begin(x, 2, 60, 1, 23);
        x.pass(60);
        DUE.is("the first is full", 2, x.about(0, 4));
        DUE.is("the second had nothing", 0, x.meter(2));
        DUE.is("and has the place now", 60, x.current(2));
        x.pass(60);
        DUE.is("is full too", 2, x.about(2, 4));
    }

    private static void fullWithinALongCall() {
        OutletOffice x = Scene.withGoodCards();
        x.limit(0, 60);
        x.fees(0, 10000);
        Scene.begin(x, 0, 60, 1, 23);
        Scene.begin(x, 2, 60, 1, 23);
        x.pass(239);
        x.leave(2);
        x.leave(0);
        DUE.is("point 0", 82800, x.meter(0));
        DUE.is("point 2", 82800, x.meter(2));
        Scene.deliver(x, 0);
        Scene.deliver(x, 2);
        DUE.is("full from 60 on, to 239", 2, x.total(0));
        DUE.is("full from 120 on, to 239", 1, x.total(2));
    }

    private static void hungerFallsOnlyInSessions() {
        OutletOffice x = Scene.withGoodCards();
        x.car(0, 320, 1, 1);
        x.pass(600);
        DUE.is("no session", 1, x.about(0, 4));
        x.show(0, 0);
        x.power(0, false);
        x.pass(600);
        DUE.is("no power", 1, x.about(0, 4));
        DUE.is("nothing metered", 0, x.meter(0));
        x.power(0, true);
        x.show(0, 0);
        x.pass(1);
        DUE.is("a session again", 2, x.about(0, 4));
    }

    private static void readingsAt60() {
        OutletOffice x = Scene.withGoodCards();
        Scene.begin(x, 0, 0, 1, 1);
        DUE.is("none at 0", 1, x.about(0, 0));
        x.pass(59);
        DUE.is("none at 59", 1, x.about(0, 0));
        x.pass(1);
        DUE.is("one at 60", 2, x.about(0, 0));
        x.pass(0);
        DUE.is("no second one at 60", 2, x.about(0, 0));
        Scene.begin(x, 2, 0, 1, 1);
        DUE.is("a session that begins at 60 has none then", 1, x.about(2, 0));
        x.pass(1);
        DUE.is("none at 61", 2, x.about(0, 0));
        x.pass(58);
        DUE.is("none at 119", 2, x.about(0, 0));
        DUE.is("nor for the later session", 1, x.about(2, 0));
        x.pass(1);
        DUE.is("one at 120", 3, x.about(0, 0));
        DUE.is("and for the later session", 2, x.about(2, 0));
        x.pass(179);
        DUE.is("two until 299", 5, x.about(0, 0));
        x.pass(1);
        DUE.is("the third at 300", 6, x.about(0, 0));
    }

    private static void readingsOfWhatRuns() {
        OutletOffice x = Scene.withGoodCards();
        Scene.begin(x, 0, 320, 1, 1);
        Scene.begin(x, 1, 0, 1, 1);
        Scene.begin(x, 2, 100, 1, 100);
        Scene.begin(x, 3, 100, 1, 100);
        Scene.begin(x, 4, 100, 1, 100);
        x.car(5, 100, 1, 100);
        x.line(2, false);
        x.power(3, false);
        x.pass(59);
        x.show(4, 4);
        x.pass(1);
        DUE.is("of a full car", 2, x.about(0, 0));
        DUE.is("of a car that wants nothing", 2, x.about(1, 0));
        DUE.is("without line", 2, x.about(2, 0));
        DUE.is("none without power", 1, x.about(3, 0));
        DUE.is("none after the stop", 2, x.about(4, 0));
        DUE.is("none without a session", 0, x.about(5, 0));
    }

    private static void readingsUpTo22() {
        OutletOffice x = Scene.withGoodCards();
        Scene.begin(x, 0, 0, 1, 1);
        x.pass(20 * 60 - 1);
        DUE.is("20 messages", 20, x.about(0, 0));
        x.pass(1);
        DUE.is("the 21st", 21, x.about(0, 0));
        x.pass(60);
        DUE.is("the 22nd", 22, x.about(0, 0));
        x.pass(60);
        DUE.is("no 23rd", 22, x.about(0, 0));
        x.pass(86400);
        DUE.is("nor in a day", 22, x.about(0, 0));
        DUE.is("the first is the start still", 1, x.about(0, 5));
    }

    private static void readingsGoOnBelow22() {
        OutletOffice x = Scene.withGoodCards();
        Scene.begin(x, 0, 0, 1, 1);
        x.pass(30 * 60);
        DUE.is("22 messages", 22, x.about(0, 0));
        x.carry(0);
        x.carry(0);
        DUE.is("21 messages", 21, x.about(0, 0));
        x.pass(59);
        DUE.is("none before the minute", 21, x.about(0, 0));
        x.pass(1);
        DUE.is("22 again", 22, x.about(0, 0));
        x.pass(60);
        DUE.is("and no more", 22, x.about(0, 0));
        // Numbers are given to what is put there alone: 22 and one more.
        x.show(0, 0);
        for (int k = 0; k < 22; k++) {
            x.carry(0);
            x.carry(0);
            x.pass(1);
        }
        DUE.is("the stop is number 24", 24, x.about(0, 5));
        DUE.is("alone", 1, x.about(0, 0));
    }

    private static void notSentYet() {
        OutletOffice x = Scene.withGoodCards();
        Scene.begin(x, 0, 0, 1, 1);
        DUE.is("not before a second", 0, x.about(0, 1));
        x.pass(0);
        DUE.is("nor in none", 0, x.about(0, 1));
        x.pass(1);
        DUE.is("in the first", 1, x.about(0, 1));
        x.show(0, 0);
        x.carry(0);
        x.carry(0);
        DUE.is("the next not before a second", 0, x.about(0, 1));
        x.pass(1);
        DUE.is("the next in the next second", 1, x.about(0, 1));
        x.carry(0);
        x.carry(0);
        x.pass(1);
        DUE.is("nothing to send", 0, x.about(0, 1));
        Scene.begin(x, 2, 0, 1, 1);
        x.line(2, false);
        x.pass(5);
        x.line(2, true);
        DUE.is("not with the line", 0, x.about(2, 1));
        x.pass(1);
        DUE.is("in the first second with it", 1, x.about(2, 1));
    }

    /** An office in which point 0 has sent its start at 1 and that was lost. */
    private static OutletOffice lostAt1() {
        OutletOffice x = Scene.withGoodCards();
        Scene.begin(x, 0, 0, 1, 1);
        x.pass(1);
        x.lose(0);
        return x;
    }

    private static void sentAgainAfter20() {
        OutletOffice x = lostAt1();
        x.pass(18);
        DUE.is("18 seconds ago", 0, x.about(0, 1));
        x.pass(1);
        DUE.is("19 seconds ago", 0, x.about(0, 1));
        x.pass(1);
        DUE.is("20 seconds ago", 1, x.about(0, 1));
        x.lose(0);
        x.pass(19);
        DUE.is("19 seconds after the second time", 0, x.about(0, 1));
        x.pass(1);
        DUE.is("20 seconds after the second time", 1, x.about(0, 1));
        x.pass(20);
        x.lose(0);
        x.pass(1);
        DUE.is("21 seconds after the third time", 1, x.about(0, 1));
    }

    private static void sentAgainWithinOneCall() {
        OutletOffice x = lostAt1();
        x.pass(38);
        DUE.yes("sent at 21, lost at 39", x.lose(0));
        x.pass(1);
        DUE.is("19 seconds after 21", 0, x.about(0, 1));
        x.pass(1);
        DUE.is("20 seconds after 21", 1, x.about(0, 1));
        DUE.yes("lost at 41", x.lose(0));
        x.pass(19);
        DUE.is("at 60, with a reading behind it", 0, x.about(0, 1));
        x.pass(1);
        DUE.is("at 61", 1, x.about(0, 1));
    }

    private static void sentAgainAfter20WithoutLine() {
        OutletOffice x = lostAt1();
        x.line(0, false);
        x.pass(18);
        x.line(0, true);
        x.pass(1);
        DUE.is("19 seconds ago, the line is back", 0, x.about(0, 1));
        x.pass(1);
        DUE.is("20 seconds ago, the line is back", 1, x.about(0, 1));
        x.line(0, false);
        x.pass(20);
        DUE.is("20 seconds ago without line", 0, x.about(0, 1));
        x.line(0, true);
        x.pass(1);
        DUE.is("21 seconds ago with the line back", 1, x.about(0, 1));
    }

    private static void sentAgainAfter20WithoutPower() {
        OutletOffice x = lostAt1();
        x.power(0, false);
        x.pass(18);
        x.power(0, true);
        x.pass(1);
        DUE.is("19 seconds ago, power is back", 0, x.about(0, 1));
        x.pass(1);
        DUE.is("20 seconds ago, power is back", 1, x.about(0, 1));
        x.power(0, false);
        x.pass(20);
        DUE.is("20 seconds ago without power", 0, x.about(0, 1));
        x.line(0, false);
        x.power(0, true);
        x.pass(1);
        DUE.is("power without line", 0, x.about(0, 1));
        x.line(0, true);
        x.pass(1);
        DUE.is("both", 1, x.about(0, 1));
    }

    private static void sentAgainAfterALostAnswer() {
        OutletOffice x = Scene.withGoodCards();
        Scene.begin(x, 0, 0, 1, 1);
        x.pass(1);
        x.pass(10);
        x.carry(0);
        DUE.is("an answer", 2, x.about(0, 1));
        x.pass(5);
        DUE.yes("is lost", x.lose(0));
        x.pass(4);
        DUE.is("19 seconds after the call was sent", 0, x.about(0, 1));
        x.pass(1);
        DUE.is("20 seconds after the call was sent", 1, x.about(0, 1));
    }

    private static void notSentWhileUnderWay() {
        OutletOffice x = Scene.withGoodCards();
        Scene.begin(x, 0, 0, 1, 1);
        x.pass(59);
        DUE.is("a call", 1, x.carry(0));
        x.pass(40);
        DUE.is("an answer is not overtaken by the call again", 2, x.about(0, 1));
        DUE.is("the answer", 2, x.carry(0));
        DUE.is("the reading is next", 2, x.about(0, 5));
    }

    private static void sentInTheSecondOfTheReading() {
        OutletOffice x = Scene.withGoodCards();
        Scene.begin(x, 0, 0, 1, 1);
        Scene.deliver(x, 0);
        DUE.is("nothing to tell", 0, x.about(0, 0));
        x.pass(59 - x.time());
        DUE.is("at 59", 0, x.about(0, 1));
        x.pass(1);
        DUE.is("put and sent at 60", 1, x.about(0, 1));
        x.lose(0);
        x.pass(19);
        DUE.is("at 79", 0, x.about(0, 1));
        x.pass(1);
        DUE.is("again at 80", 1, x.about(0, 1));
    }

    private static void passesOf0AndADay() {
        OutletOffice x = new OutletOffice();
        DUE.is("pass(0)", 0, x.pass(0));
        DUE.is("time", 0, x.time());
        DUE.is("pass(1)", 1, x.pass(1));
        DUE.is("pass(86399)", 86400, x.pass(86399));
        DUE.is("pass(86400)", 172800, x.pass(86400));
        DUE.noArgument("pass(86401)", () -> x.pass(86401));
        DUE.noArgument("pass(-1)", () -> x.pass(-1));
        DUE.is("time", 172800, x.time());
        int days = 2;
        for (int calls = 8; calls < 511; calls++) {
            x.pass(86400);
            days++;
        }
        DUE.is("as far as 512 calls go", days * 86400L, x.time());
    }
}
