/** Promises 13 to 16 and 20: carry, lose, pass, time, about. */
public final class MessageTest {
    private static final Due DUE = new Due();

    public static void main(String[] args) {
        callAndAnswer();
        lostCall();
        lostAnswer();
        sentOnceIn20Seconds();
        sentAgainWithinALongCall();
        outageDoesNotHasten();
        readings();
        readingsHaveAnEnd();
        passing();
        about();
        DUE.end();
    }

    private static void callAndAnswer() {
        OutletOffice x = Scene.withGoodCards();
        DUE.same("nothing to carry", 0, () -> x.carry(0));
        Scene.begin(x, 0, 100, 1, 5);
        DUE.same("nothing is sent before a second", 0, () -> x.carry(0));
        x.pass(1);
        DUE.same("other points send nothing", 0, () -> x.carry(2));
        DUE.same("no bill yet", -1, () -> x.open(0));
        DUE.same("a call", 1, () -> x.carry(0));
        DUE.same("taken in", 0, () -> x.open(0));
        DUE.same("the message stays for the answer", 1, () -> x.about(0, 0));
        DUE.same("an answer", 2, () -> x.carry(0));
        DUE.same("the message goes", 0, () -> x.about(0, 0));
        DUE.same("no first message", 0, () -> x.about(0, 5));
        DUE.same("nothing more", 0, () -> x.carry(0));
        x.pass(5);
        DUE.same("nothing to send", 0, () -> x.carry(0));
        DUE.noIndex("carry(6)", () -> x.carry(6));
        DUE.noIndex("carry(-1)", () -> x.carry(-1));
    }

    private static void lostCall() {
        OutletOffice x = Scene.withGoodCards();
        DUE.no("nothing to lose", x.lose(0));
        Scene.begin(x, 0, 100, 1, 5);
        x.pass(1);
        DUE.yes("a call is lost", x.lose(0));
        DUE.no("but once", x.lose(0));
        DUE.same("it did not reach the office", -1, () -> x.open(0));
        DUE.same("the message stays", 1, () -> x.about(0, 0));
        DUE.noIndex("lose(6)", () -> x.lose(6));
        DUE.noIndex("lose(-1)", () -> x.lose(-1));
    }

    private static void lostAnswer() {
        OutletOffice x = Scene.withGoodCards();
        x.fees(70, 0);
        x.band(0, 0, 10);
        Scene.begin(x, 0, 320, 1, 100);
        x.pass(1);
        x.carry(0);
        x.carry(0);
        x.pass(59);
        x.carry(0);
        long once = x.open(0);
        DUE.yes("the answer is lost", x.lose(0));
        x.fees(90, 0);
        x.pass(20);
        DUE.same("the call comes again", 1, () -> x.carry(0));
        DUE.same("and is not taken in again", once, () -> x.open(0));
        DUE.same("an answer comes all the same", 2, () -> x.carry(0));
        DUE.same("the message goes", 0, () -> x.about(0, 0));
    }

    private static void sentOnceIn20Seconds() {
        OutletOffice x = Scene.withGoodCards();
        Scene.begin(x, 4, 0, 1, 5);
        x.pass(7);
        x.lose(4);
        x.pass(13);
        DUE.same("sent at 1, not again at 20", 0, () -> x.about(4, 1));
        x.pass(1);
        DUE.same("again at 21", 1, () -> x.about(4, 1));
        x.pass(100);
        x.lose(4);
        x.pass(1);
        DUE.same("sent at 21, so again at once at 122", 1, () -> x.about(4, 1));
        x.carry(4);
        x.carry(4);
        x.pass(1);
        DUE.same("the next one was not sent yet", 1, () -> x.about(4, 1));
        DUE.same("the second message", 2, () -> x.about(4, 5));
    }

    private static void sentAgainWithinALongCall() {
        OutletOffice x = Scene.withGoodCards();
        Scene.begin(x, 1, 0, 1, 5);
        x.pass(1);
        x.lose(1);
        x.pass(39);
        x.lose(1);
        x.pass(1);
        DUE.same("sent at 1 and 21, so again at 41", 1, () -> x.about(1, 1));
    }

    private static void outageDoesNotHasten() {
        OutletOffice x = Scene.withGoodCards();
        Scene.begin(x, 0, 0, 1, 5);
        x.pass(1);
        x.line(0, false);
        x.line(0, true);
        x.pass(19);
        DUE.same("lost with the line at 1, not sent at 20", 0, () -> x.about(0, 1));
        x.pass(1);
        DUE.same("sent at 21", 1, () -> x.about(0, 1));
    }

    private static void readings() {
        OutletOffice x = Scene.withGoodCards();
        x.pass(59);
        Scene.begin(x, 0, 0, 1, 5);
        x.car(2, 100, 1, 5);
        DUE.same("the start", 1, () -> x.about(0, 0));
        x.pass(1);
        DUE.same("a reading at 60", 2, () -> x.about(0, 0));
        DUE.same("none without a session", 0, () -> x.about(2, 0));
        x.pass(59);
        DUE.same("none at 119", 2, () -> x.about(0, 0));
        x.pass(1);
        DUE.same("a reading at 120", 3, () -> x.about(0, 0));
        x.pass(0);
        DUE.same("none in no second", 3, () -> x.about(0, 0));
        DUE.same("the first message", 1, () -> x.about(0, 5));
    }

    private static void readingsHaveAnEnd() {
        OutletOffice x = Scene.withGoodCards();
        Scene.begin(x, 0, 320, 1, 100000);
        x.pass(21 * 60);
        DUE.same("22 messages", 22, () -> x.about(0, 0));
        x.pass(3000);
        DUE.same("no more readings", 22, () -> x.about(0, 0));
        DUE.same("the meter goes on", 4260 * 7360L, () -> x.meter(0));
        x.carry(0);
        x.carry(0);
        x.pass(60);
        DUE.same("room for one again", 22, () -> x.about(0, 0));
        x.leave(0);
        DUE.same("room for the stop", 23, () -> x.about(0, 0));
    }

    private static void passing() {
        OutletOffice x = new OutletOffice();
        DUE.same("pass(0)", 0, () -> x.pass(0));
        DUE.same("pass(1)", 1, () -> x.pass(1));
        DUE.same("pass(86400)", 86401, () -> x.pass(86400));
        DUE.noArgument("pass(86401)", () -> x.pass(86401));
        DUE.noArgument("pass(-1)", () -> x.pass(-1));
        DUE.noArgument("pass(the least)", () -> x.pass(Integer.MIN_VALUE));
        DUE.noArgument("pass(the greatest)", () -> x.pass(Integer.MAX_VALUE));
        DUE.same("time", 86401, x::time);
    }

    private static void about() {
        OutletOffice x = Scene.withGoodCards();
        Scene.begin(x, 5, 320, 1, 1);
        x.pass(1);
        int[] due = {1, 1, 1, 5, 2, 1};
        for (int w = 0; w < 6; w++) {
            int what = w;
            DUE.same("about(5, " + w + ")", due[w], () -> x.about(5, what));
        }
        DUE.noArgument("about(0, 6)", () -> x.about(0, 6));
        DUE.noArgument("about(0, -1)", () -> x.about(0, -1));
        DUE.noIndex("about(6, 6)", () -> x.about(6, 6));
        DUE.noIndex("about(-1, 0)", () -> x.about(-1, 0));
    }
}
