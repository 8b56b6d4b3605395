/** Promises 6 and 10 to 12: copy, show, line, power. */
public final class SessionTest {
    private static final Due DUE = new Due();

    public static void main(String[] args) {
        copy();
        copyIsOfThen();
        begins();
        beginsOnlyWithRoom();
        ends();
        groupsByTheListGoneBy();
        numbersByPoints();
        line();
        power();
        powerEndsWithoutIdle();
        keptWithoutPower();
        DUE.end();
    }

    private static void copy() {
        OutletOffice x = new OutletOffice();
        DUE.yes("copy with both", x.copy(5));
        x.line(5, false);
        DUE.no("copy without line", x.copy(5));
        x.power(5, false);
        DUE.no("copy without both", x.copy(5));
        x.line(5, true);
        DUE.no("copy without power", x.copy(5));
        DUE.noIndex("copy(6)", () -> x.copy(6));
        DUE.noIndex("copy(-1)", () -> x.copy(-1));
    }

    private static void copyIsOfThen() {
        OutletOffice x = new OutletOffice();
        x.card(3, 1, 0);
        x.car(0, 100, 1, 5);
        x.car(2, 100, 1, 5);
        x.copy(0);
        x.card(3, 0, 0);
        DUE.same("with line the office's list", 0, () -> x.show(0, 3));
        x.line(0, false);
        x.line(2, false);
        DUE.same("without line the copy", 1, () -> x.show(0, 3));
        DUE.same("another point's copy is its own", 0, () -> x.show(2, 3));
        x.card(3, 1, 0);
        DUE.same("a card made good later is not in the copy", 0, () -> x.show(2, 3));
    }

    private static void begins() {
        OutletOffice x = new OutletOffice();
        x.card(1, 1, 0);
        DUE.same("no car", 0, () -> x.show(0, 1));
        x.car(0, 100, 1, 5);
        DUE.same("not a good card", 0, () -> x.show(0, 2));
        x.power(0, false);
        DUE.same("no power", 0, () -> x.show(0, 1));
        x.power(0, true);
        DUE.same("begins", 1, () -> x.show(0, 1));
        DUE.same("session 1", 1, () -> x.about(0, 2));
        DUE.same("of card 1", 1, () -> x.about(0, 3));
        DUE.same("a start is told", 1, () -> x.about(0, 0));
        DUE.noIndex("show(6, 0)", () -> x.show(6, 0));
        DUE.noIndex("show(-1, 0)", () -> x.show(-1, 0));
        DUE.noIndex("show(0, 16)", () -> x.show(0, 16));
        DUE.noIndex("show(0, -1)", () -> x.show(0, -1));
    }

    private static void beginsOnlyWithRoom() {
        OutletOffice x = Scene.withGoodCards();
        x.car(0, 0, 1, 5);
        x.show(0, 0);
        x.pass(18 * 60);
        x.show(0, 0);
        DUE.same("start, 18 readings, stop", 20, () -> x.about(0, 0));
        DUE.same("begins at 20 messages", 1, () -> x.show(0, 1));
        DUE.same("ends at 21 messages", 2, () -> x.show(0, 1));
        DUE.same("22 messages", 22, () -> x.about(0, 0));
        DUE.same("begins not at 22", 0, () -> x.show(0, 1));
        x.pass(1);
        x.carry(0);
        x.carry(0);
        DUE.same("21 messages", 21, () -> x.about(0, 0));
        DUE.same("begins not at 21", 0, () -> x.show(0, 1));
        x.pass(1);
        x.carry(0);
        x.carry(0);
        DUE.same("begins at 20 again", 1, () -> x.show(0, 1));
    }

    private static void ends() {
        OutletOffice x = new OutletOffice();
        x.card(1, 1, 4);
        x.card(2, 0, 4);
        x.card(3, 1, 5);
        x.card(4, 1, 0);
        x.card(5, 1, 0);
        x.car(0, 100, 1, 5);
        x.show(0, 1);
        DUE.same("another group", 0, () -> x.show(0, 3));
        DUE.same("no group", 0, () -> x.show(0, 4));
        DUE.same("the same group, though not good", 2, () -> x.show(0, 2));
        DUE.same("no session", 0, () -> x.about(0, 2));
        x.show(0, 4);
        DUE.same("group 0 is no group", 0, () -> x.show(0, 5));
        x.card(4, 0, 0);
        DUE.same("its own card, good no more", 2, () -> x.show(0, 4));
        x.show(0, 3);
        x.power(0, false);
        DUE.same("a session that does not run", 0, () -> x.show(0, 3));
    }

    private static void groupsByTheListGoneBy() {
        OutletOffice x = new OutletOffice();
        x.card(1, 1, 4);
        x.card(2, 1, 4);
        x.car(0, 100, 1, 5);
        x.show(0, 1);
        x.line(0, false);
        DUE.same("no group in the first copy", 0, () -> x.show(0, 2));
        x.line(0, true);
        x.copy(0);
        x.card(1, 1, 6);
        DUE.same("no more of one group at the office", 0, () -> x.show(0, 2));
        x.line(0, false);
        DUE.same("of one group in the copy", 2, () -> x.show(0, 2));
    }

    private static void numbersByPoints() {
        OutletOffice x = Scene.withGoodCards();
        x.car(1, 100, 1, 5);
        x.car(3, 100, 1, 5);
        x.show(1, 1);
        x.show(1, 1);
        x.show(1, 2);
        x.show(3, 1);
        DUE.same("the second session of point 1", 2, () -> x.about(1, 2));
        DUE.same("its card", 2, () -> x.about(1, 3));
        DUE.same("the first session of point 3", 1, () -> x.about(3, 2));
    }

    private static void line() {
        OutletOffice x = Scene.withGoodCards();
        Scene.begin(x, 0, 100, 1, 500);
        x.pass(1);
        x.line(0, true);
        DUE.same("a line that was there loses nothing", 1, () -> x.about(0, 1));
        x.line(0, false);
        DUE.same("without line the call is lost", 0, () -> x.about(0, 1));
        x.pass(30);
        DUE.same("nothing is sent without line", 0, () -> x.about(0, 1));
        DUE.same("the session runs on", 31 * 2300L, () -> x.meter(0));
        x.line(0, true);
        DUE.same("nothing under way yet", 0, () -> x.about(0, 1));
        x.pass(1);
        x.carry(0);
        DUE.same("an answer is under way", 2, () -> x.about(0, 1));
        x.line(0, false);
        DUE.same("and is lost", 0, () -> x.about(0, 1));
        DUE.same("the message stays", 1, () -> x.about(0, 0));
        DUE.noIndex("line(6, ..)", () -> x.line(6, true));
        DUE.noIndex("line(-1, ..)", () -> x.line(-1, false));
    }

    private static void power() {
        OutletOffice x = Scene.withGoodCards();
        Scene.begin(x, 0, 100, 1, 500);
        x.pass(1);
        x.power(0, true);
        DUE.same("power that was there ends nothing", 1, () -> x.about(0, 2));
        DUE.same("nor loses anything", 1, () -> x.about(0, 1));
        x.power(0, false);
        DUE.same("without power the call is lost", 0, () -> x.about(0, 1));
        DUE.same("no current without power", 0, () -> x.current(0));
        x.pass(120);
        DUE.same("no growth without power", 2300, () -> x.meter(0));
        DUE.same("no reading without power", 1, () -> x.about(0, 0));
        DUE.same("nothing sent without power", 0, () -> x.about(0, 1));
        x.power(0, false);
        DUE.same("the session stays", 1, () -> x.about(0, 2));
        x.power(0, true);
        DUE.same("power ends the session", 0, () -> x.about(0, 2));
        DUE.same("with a stop", 2, () -> x.about(0, 0));
        DUE.same("the car stays", 1, () -> x.about(0, 4));
        x.power(0, false);
        x.power(0, true);
        DUE.same("no session, no stop", 2, () -> x.about(0, 0));
        DUE.noIndex("power(6, ..)", () -> x.power(6, true));
        DUE.noIndex("power(-1, ..)", () -> x.power(-1, false));
    }

    private static void powerEndsWithoutIdle() {
        OutletOffice x = Scene.withGoodCards();
        x.fees(0, 1000000);
        Scene.begin(x, 0, 320, 1, 1);
        x.pass(600);
        x.power(0, false);
        x.power(0, true);
        Scene.deliver(x, 0);
        DUE.same("billed", 1, x::bills);
        DUE.same("without an idle fee", 0, () -> x.bill(0, 3));
    }

    private static void keptWithoutPower() {
        OutletOffice x = Scene.withGoodCards();
        x.copy(0);
        Scene.begin(x, 0, 100, 1, 500);
        x.pass(90);
        x.power(0, false);
        x.leave(0);
        x.car(0, 200, 1, 5);
        DUE.same("the meter", 90 * 2300L, () -> x.meter(0));
        DUE.same("the session", 1, () -> x.about(0, 2));
        DUE.same("the card", 0, () -> x.about(0, 3));
        DUE.same("the queue", 2, () -> x.about(0, 0));
        DUE.same("no current for the next car", 0, () -> x.current(0));
        x.power(0, true);
        Scene.deliver(x, 0);
        x.line(0, false);
        DUE.same("the copy and the numbers of sessions", 1, () -> x.show(0, 0));
        DUE.same("session 2", 2, () -> x.about(0, 2));
        DUE.same("message 4", 4, () -> x.about(0, 5));
    }
}
