/**
 * A scene in which settings, cars, sessions, queues and bills are unlike a new object's, and what can be
 * seen from there on: two objects in the same state tell the same story.
 */
final class Story {
    private final OutletOffice x;
    private final StringBuilder told = new StringBuilder();

    private Story(OutletOffice x) {
        this.x = x;
    }

    /**
     * Point 0 charges and has a call under way, point 1 has no line, point 2 a full car, point 3 no power,
     * point 4 no car but a closed bill, point 5 an answer under way; band 3 is not set.
     */
    static OutletOffice scene() {
        OutletOffice x = new OutletOffice();
        for (int card = 0; card < 16; card++) {
            x.card(card, card % 5 == 4 ? 0 : 1, card % 4);
        }
        x.copy(1);
        x.copy(3);
        x.card(2, 0, 7);
        x.card(9, 1, 15);
        x.limit(0, 300);
        x.limit(1, 350);
        x.fees(700001, 30000);
        x.band(0, 0, 3);
        x.band(1, 2, 50);
        x.band(2, 4, 700);
        beginAt(x, 4, 60, 1, 8);
        x.leave(4);
        Scene.deliver(x, 4);
        beginAt(x, 0, 320, 2, 0);
        beginAt(x, 2, 100, 1, 1);
        beginAt(x, 1, 200, 3, 5);
        beginAt(x, 3, 150, 9, 6);
        beginAt(x, 5, 300, 1, 7);
        x.line(1, false);
        x.pass(300);
        x.carry(5);
        x.power(3, false);
        x.pass(240);
        return x;
    }

    private static void beginAt(OutletOffice x, int point, int wants, int weight, int card) {
        x.car(point, wants, weight, point == 2 ? 1 : 50000);
        x.show(point, card);
    }

    static String of(OutletOffice x) {
        Story story = new Story(x);
        story.look();
        story.showAllCards(1);
        story.tell(x.car(4, 60, 1, 1) ? 1 : 0);
        for (int card : new int[] {8, 11, 12, 8, 12, 9, 12, 8}) {
            story.tell(x.show(4, card));
        }
        story.showAllCards(4);
        story.tell(x.leave(2) ? 1 : 0);
        story.bringHome(0);
        story.bringHome(2);
        x.power(3, true);
        story.look();
        return story.told.toString();
    }

    private void tell(long answer) {
        told.append(answer).append(' ');
    }

    private void look() {
        for (int p = 0; p < 6; p++) {
            for (int what = 0; what < 6; what++) {
                tell(x.about(p, what));
            }
            tell(x.meter(p));
            tell(x.open(p));
            tell(x.current(p));
        }
        tell(x.sum(0));
        tell(x.sum(1));
        tell(x.time());
        tell(x.bills());
        for (int i = 0; i < x.bills(); i++) {
            for (int what = 0; what < 5; what++) {
                tell(x.bill(i, what));
            }
        }
        for (int card = 0; card < 16; card++) {
            tell(x.total(card));
        }
    }

    private void showAllCards(int point) {
        for (int card = 0; card < 16; card++) {
            tell(x.show(point, card));
        }
    }

    private void bringHome(int point) {
        for (int k = 0; k < 12; k++) {
            tell(x.carry(point));
            tell(x.carry(point));
            tell(x.open(point));
            tell(x.pass(1));
        }
    }
}
