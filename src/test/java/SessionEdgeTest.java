/** Cards, cars and sessions, at each number that the document names and on both sides of it. */
public final class SessionEdgeTest {
    private static final Due DUE = new Due();

    public static void main(String[] args) {
        pointsAndCards();
        statusOf0And1();
        groupsOf0To15();
        groupsOfACopy();
        copiesAtFirst();
        carsOfTheLeastAndTheMost();
        wantsOfTheLeastAndTheMost();
        wantsOnlyBeforeFull();
        beginsWithAtMost20();
        twentyThreeMessagesAtMost();
        stopOfLeavingAt22();
        stopOfPowerAt22();
        refusedShowUsesNoNumber();
        leaveAnswersOfTheCar();
        sessionWithoutPowerStays();
        powerThatComesEnds();
        lostWithLineOrPower();
        carriedOnlyWhatIsUnderWay();
        aboutEachNumber();
        DUE.end();
    }

    private static void pointsAndCards() {
        OutletOffice x = Scene.withGoodCards();
        for (int p = 0; p < 6; p++) {
            DUE.yes("a car at point " + p, x.car(p, 100, 1, 1));
            DUE.is("card " + 3 * p + " at point " + p, 1, x.show(p, 3 * p));
            DUE.is("the card", 3 * p, x.about(p, 3));
            DUE.is("point " + p + " is at its site", 100 * (p / 2 + 1), x.sum(p % 2));
            DUE.is("session 1 of each point", 1, x.about(p, 2));
            DUE.is("message 1 of each point", 1, x.about(p, 5));
        }
    }

    private static void statusOf0And1() {
        OutletOffice x = new OutletOffice();
        x.car(0, 100, 1, 1);
        for (int card = 0; card < 16; card += 15) {
            DUE.is("not good at first", 0, x.show(0, card));
            x.card(card, 1, 0);
            DUE.is("good", 1, x.show(0, card));
            x.show(0, card);
            x.card(card, 0, 0);
            DUE.is("not good", 0, x.show(0, card));
        }
    }

    /** Whether one card ends another's session when they have these groups. */
    private static int endsFor(int group, int other) {
        OutletOffice x = new OutletOffice();
        x.card(0, 1, group);
        x.card(15, 0, other);
        x.car(0, 100, 1, 1);
        x.show(0, 0);
        return x.show(0, 15);
    }

    private static void groupsOf0To15() {
        DUE.is("0 is no group", 0, endsFor(0, 0));
        DUE.is("0 and 1", 0, endsFor(0, 1));
        DUE.is("1 and 0", 0, endsFor(1, 0));
        DUE.is("1 and 1", 2, endsFor(1, 1));
        DUE.is("1 and 2", 0, endsFor(1, 2));
        DUE.is("14 and 15", 0, endsFor(14, 15));
        DUE.is("15 and 15", 2, endsFor(15, 15));
    }

    private static void groupsOfACopy() {
        OutletOffice x = new OutletOffice();
        x.card(1, 1, 15);
        x.card(2, 1, 15);
        x.car(0, 100, 1, 1);
        x.copy(0);
        x.card(1, 1, 0);
        x.card(2, 0, 0);
        x.show(0, 1);
        DUE.is("no group at the office now", 0, x.show(0, 2));
        x.line(0, false);
        DUE.is("group 15 in the copy", 2, x.show(0, 2));
        DUE.is("good in the copy", 1, x.show(0, 2));
        x.line(0, true);
        DUE.is("its own card, though not good", 2, x.show(0, 2));
        DUE.is("not good at the office", 0, x.show(0, 2));
        DUE.yes("the copy is taken again", x.copy(0));
        x.line(0, false);
        DUE.is("not good in the copy now", 0, x.show(0, 2));
    }

    private static void copiesAtFirst() {
        OutletOffice x = Scene.withGoodCards();
        for (int p = 0; p < 6; p++) {
            x.car(p, 100, 1, 1);
            x.line(p, false);
            DUE.is("no card is good in the first copy", 0, x.show(p, 0));
            DUE.no("no copy without line", x.copy(p));
            DUE.is("still none", 0, x.show(p, 0));
            x.line(p, true);
            x.power(p, false);
            DUE.no("no copy without power", x.copy(p));
            x.power(p, true);
            x.line(p, false);
            DUE.is("still none after that", 0, x.show(p, 0));
        }
    }

    private static void carsOfTheLeastAndTheMost() {
        OutletOffice x = Scene.withGoodCards();
        Scene.begin(x, 0, 0, 1, 1);
        DUE.is("wants 0", 0, x.current(0));
        Scene.begin(x, 2, 320, 9, 100000);
        DUE.is("wants 320", 320, x.current(2));
        x.limit(0, 319);
        DUE.is("weight 9", 315, x.current(2));
        x.limit(0, 480);
        Scene.begin(x, 4, 320, 1, 1);
        DUE.is("weight 1 beside weight 9", 160, x.current(4));
        x.pass(1);
        DUE.is("1 watt-hour is full", 2, x.about(4, 4));
        DUE.is("100000 are not", 1, x.about(2, 4));
        DUE.is("nor 1 of a car that wants nothing", 1, x.about(0, 4));
    }

    private static void wantsOfTheLeastAndTheMost() {
        OutletOffice x = Scene.withGoodCards();
        DUE.no("no car", x.want(0, 100));
        Scene.begin(x, 0, 100, 1, 1);
        DUE.yes("0", x.want(0, 0));
        DUE.is("takes nothing", 0, x.current(0));
        DUE.yes("1", x.want(0, 1));
        DUE.yes("319", x.want(0, 319));
        DUE.is("takes 319", 319, x.current(0));
        DUE.yes("320", x.want(0, 320));
        DUE.is("takes 320", 320, x.current(0));
        x.power(0, false);
        DUE.yes("without power too", x.want(0, 200));
        x.power(0, true);
        x.show(0, 0);
        DUE.is("takes 200", 200, x.current(0));
        x.leave(0);
        DUE.no("the car is gone", x.want(0, 100));
    }

    private static void wantsOnlyBeforeFull() {
        OutletOffice x = Scene.withGoodCards();
        Scene.begin(x, 0, 60, 1, 23);
        x.pass(59);
        DUE.yes("a second before it is full", x.want(0, 60));
        x.pass(1);
        DUE.no("full", x.want(0, 60));
        x.show(0, 0);
        DUE.no("full without a session", x.want(0, 60));
        x.show(0, 1);
        DUE.is("full in another session", 0, x.current(0));
        DUE.no("full there too", x.want(0, 60));
        x.leave(0);
        DUE.yes("the next car comes", x.car(0, 60, 1, 23));
        DUE.yes("and may want", x.want(0, 61));
    }

    /** An office whose point 0 has a car, no session, and 2 to 23 messages. */
    private static OutletOffice withMessages(int messages) {
        OutletOffice x = Scene.withGoodCards();
        Scene.begin(x, 0, 0, 1, 1);
        x.pass((messages - 2) * 60);
        x.show(0, 0);
        DUE.is("messages", messages, x.about(0, 0));
        return x;
    }

    private static void beginsWithAtMost20() {
        DUE.is("19 messages", 1, withMessages(19).show(0, 3));
        DUE.is("20 messages", 1, withMessages(20).show(0, 3));
        DUE.is("21 messages", 0, withMessages(21).show(0, 3));
        DUE.is("22 messages", 0, withMessages(22).show(0, 3));
        DUE.is("23 messages", 0, withMessages(23).show(0, 3));
        OutletOffice x = withMessages(21);
        x.show(0, 3);
        DUE.is("nothing is put there", 21, x.about(0, 0));
        DUE.is("a call goes", 1, x.carry(0));
        DUE.is("21 until the answer", 0, x.show(0, 3));
        DUE.is("the answer comes", 2, x.carry(0));
        DUE.is("20 again", 1, x.show(0, 3));
        DUE.is("21 with the start", 21, x.about(0, 0));
    }

    private static void twentyThreeMessagesAtMost() {
        OutletOffice x = withMessages(20);
        x.show(0, 3);
        x.pass(120);
        DUE.is("the start and one reading", 22, x.about(0, 0));
        DUE.is("room for the stop", 2, x.show(0, 3));
        DUE.is("23 messages", 23, x.about(0, 0));
        x.pass(86400);
        DUE.is("no more than that", 23, x.about(0, 0));
    }

    private static void stopOfLeavingAt22() {
        OutletOffice x = Scene.withGoodCards();
        Scene.begin(x, 0, 0, 1, 1);
        x.pass(3600);
        DUE.yes("the car goes at 22", x.leave(0));
        DUE.is("23 messages", 23, x.about(0, 0));
        DUE.is("no session", 0, x.about(0, 2));
    }

    private static void stopOfPowerAt22() {
        OutletOffice x = Scene.withGoodCards();
        Scene.begin(x, 0, 0, 1, 1);
        x.pass(3600);
        x.power(0, false);
        DUE.is("22 messages", 22, x.about(0, 0));
        x.power(0, true);
        DUE.is("23 messages", 23, x.about(0, 0));
        DUE.is("no session", 0, x.about(0, 2));
    }

    private static void refusedShowUsesNoNumber() {
        OutletOffice x = new OutletOffice();
        x.card(1, 1, 0);
        x.show(0, 1);
        x.car(0, 100, 1, 1);
        x.show(0, 2);
        x.power(0, false);
        x.show(0, 1);
        x.power(0, true);
        DUE.is("begins", 1, x.show(0, 1));
        DUE.is("session 1", 1, x.about(0, 2));
        DUE.is("message 1", 1, x.about(0, 5));
        x.show(0, 2);
        DUE.is("another card changes nothing", 1, x.about(0, 3));
        x.show(0, 1);
        x.show(0, 1);
        DUE.is("session 2", 2, x.about(0, 2));
        DUE.is("three messages", 3, x.about(0, 0));
    }

    private static void leaveAnswersOfTheCar() {
        OutletOffice x = Scene.withGoodCards();
        DUE.no("no car", x.leave(0));
        x.car(0, 100, 1, 1);
        DUE.yes("a car without a session", x.leave(0));
        DUE.no("no car any more", x.leave(0));
        Scene.begin(x, 0, 100, 1, 1);
        x.power(0, false);
        DUE.yes("a car whose session does not run", x.leave(0));
        DUE.no("a session without a car", x.leave(0));
        DUE.is("the session is still there", 1, x.about(0, 2));
    }

    private static void sessionWithoutPowerStays() {
        OutletOffice x = Scene.withGoodCards();
        Scene.begin(x, 0, 100, 1, 100);
        x.pass(10);
        x.power(0, false);
        x.leave(0);
        DUE.is("show answers 0", 0, x.show(0, 0));
        x.car(0, 200, 1, 100);
        DUE.is("with the next car too", 0, x.show(0, 0));
        DUE.is("another card too", 0, x.show(0, 1));
        DUE.is("the next car takes nothing", 0, x.current(0));
        x.pass(600);
        DUE.is("the meter stands", 23000, x.meter(0));
        DUE.is("the card", 0, x.about(0, 3));
        x.power(0, true);
        DUE.is("no session", 0, x.about(0, 2));
        DUE.is("the next car has none", 0, x.current(0));
        DUE.is("it may begin one", 1, x.show(0, 1));
        DUE.is("and takes its own", 200, x.current(0));
    }

    private static void powerThatComesEnds() {
        OutletOffice x = Scene.withGoodCards();
        x.power(0, false);
        x.power(0, true);
        DUE.is("no session, nothing to tell", 0, x.about(0, 0));
        Scene.begin(x, 0, 100, 1, 100);
        x.power(0, true);
        DUE.is("power that was there", 1, x.about(0, 0));
        x.power(0, false);
        x.power(0, false);
        DUE.is("power that goes", 1, x.about(0, 0));
        x.power(0, true);
        DUE.is("power that comes", 2, x.about(0, 0));
        x.power(0, true);
        DUE.is("but once", 2, x.about(0, 0));
        DUE.is("no card", -1, x.about(0, 3));
    }

    private static void lostWithLineOrPower() {
        for (int answer = 0; answer < 2; answer++) {
            OutletOffice x = Scene.withGoodCards();
            Scene.begin(x, 0, 0, 1, 1);
            Scene.begin(x, 2, 0, 1, 1);
            x.pass(1);
            if (answer == 1) {
                x.carry(0);
                x.carry(2);
            }
            x.line(0, true);
            x.power(2, true);
            DUE.is("what was there loses nothing", 1 + answer, x.about(0, 1));
            DUE.is("nor does power", 1 + answer, x.about(2, 1));
            x.line(0, false);
            x.power(2, false);
            DUE.is("lost with the line", 0, x.about(0, 1));
            DUE.is("lost with power", 0, x.about(2, 1));
            DUE.no("nothing left to lose", x.lose(0));
            DUE.is("nothing left to carry", 0, x.carry(2));
            x.line(0, true);
            x.power(2, true);
            DUE.is("and not back with the line", 0, x.carry(0));
            DUE.is("nor with power", 0, x.carry(2));
            DUE.is("the message stays", 1, x.about(0, 0));
        }
    }

    private static void carriedOnlyWhatIsUnderWay() {
        OutletOffice x = Scene.withGoodCards();
        DUE.is("no message", 0, x.carry(5));
        Scene.begin(x, 5, 0, 1, 1);
        DUE.is("not sent", 0, x.carry(5));
        x.pass(1);
        DUE.is("a call", 1, x.carry(5));
        DUE.is("an answer", 2, x.carry(5));
        DUE.is("nothing", 0, x.carry(5));
        DUE.no("nothing to lose", x.lose(5));
        x.show(5, 5);
        x.pass(1);
        DUE.yes("a call to lose", x.lose(5));
        DUE.no("but once", x.lose(5));
        DUE.is("nothing to carry", 0, x.carry(5));
        x.pass(20);
        x.carry(5);
        DUE.yes("an answer to lose", x.lose(5));
        DUE.is("the message stays", 2, x.about(5, 5));
    }

    private static void aboutEachNumber() {
        OutletOffice x = Scene.withGoodCards();
        int[] atFirst = {0, 0, 0, -1, 0, 0};
        int[] inSession = {2, 2, 1, 15, 2, 1};
        for (int what = 0; what < 6; what++) {
            DUE.is("about(0, " + what + ") at first", atFirst[what], x.about(0, what));
        }
        x.car(0, 320, 1, 1);
        DUE.is("a car", 1, x.about(0, 4));
        x.show(0, 15);
        x.pass(60);
        x.carry(0);
        for (int what = 0; what < 6; what++) {
            DUE.is("about(0, " + what + ")", inSession[what], x.about(0, what));
        }
        DUE.noArgument("about(0, -1)", () -> x.about(0, -1));
        DUE.noArgument("about(0, 6)", () -> x.about(0, 6));
    }
}
