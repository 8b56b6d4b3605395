/** Steps that many tests take. */
final class Scene {
    private Scene() {
    }

    /** An office in which every card is good and has no group. */
    static OutletOffice withGoodCards() {
        OutletOffice x = new OutletOffice();
        for (int card = 0; card < 16; card++) {
            x.card(card, 1, 0);
        }
        return x;
    }

    /** A car comes and a session begins with the card of the point's number. */
    static void begin(OutletOffice x, int point, int wants, int weight, int hours) {
        if (!x.car(point, wants, weight, hours) || x.show(point, point) != 1) {
            throw new IllegalStateException("no session began at point " + point);
        }
    }

    /** Carries until the point's queue is empty, a second for each message. */
    static void deliver(OutletOffice x, int point) {
        for (int k = 0; k < 30 && x.about(point, 0) > 0; k++) {
            if (x.about(point, 1) == 0) {
                x.pass(1);
            }
            x.carry(point);
            x.carry(point);
        }
    }
}
