/** Promises 1 to 5: a new object, limit, band, fees, card. */
public final class SettingsTest {
    private static final Due DUE = new Due();

    public static void main(String[] args) {
        newObject();
        limit();
        band();
        fees();
        card();
        DUE.end();
    }

    private static void newObject() {
        OutletOffice x = new OutletOffice();
        DUE.same("time at first", 0, x::time);
        DUE.same("bills at first", 0, x::bills);
        for (int p = 0; p < 6; p++) {
            int point = p;
            DUE.same("meter at first", 0, () -> x.meter(point));
            DUE.same("open at first", -1, () -> x.open(point));
            DUE.same("current at first", 0, () -> x.current(point));
            int[] about = {0, 0, 0, -1, 0, 0};
            for (int w = 0; w < 6; w++) {
                int what = w;
                DUE.same("about(" + p + ", " + w + ") at first", about[w], () -> x.about(point, what));
            }
            DUE.yes("a new point has power and line", x.copy(point));
        }
        for (int c = 0; c < 16; c++) {
            int card = c;
            DUE.same("total at first", 0, () -> x.total(card));
            x.car(0, 100, 1, 1);
            DUE.same("no card is good at first", 0, () -> x.show(0, card));
        }
        limitsAtFirst();
        pricesAtFirst();
    }

    private static void limitsAtFirst() {
        OutletOffice x = Scene.withGoodCards();
        // With 481 the last one of a site would take 161.
        for (int p = 0; p < 6; p++) {
            Scene.begin(x, p, p < 4 ? 160 : 161, 1, 100);
        }
        DUE.same("sum of site 0 at limit 480", 480, () -> x.sum(0));
        DUE.same("sum of site 1 at limit 480", 480, () -> x.sum(1));
    }

    private static void pricesAtFirst() {
        OutletOffice x = Scene.withGoodCards();
        Scene.begin(x, 0, 320, 1, 1);
        x.pass(1);
        x.carry(0);
        DUE.same("no start fee at first", 0, () -> x.open(0));
        // An idle fee of 1 would make a cent of these days.
        for (int day = 0; day < 12; day++) {
            x.pass(86400);
        }
        x.leave(0);
        Scene.deliver(x, 0);
        DUE.same("bills without fees and bands", 1, x::bills);
        DUE.same("cents without fees and bands", 0, () -> x.bill(0, 3));
    }

    private static void limit() {
        OutletOffice x = Scene.withGoodCards();
        Scene.begin(x, 0, 320, 1, 100);
        Scene.begin(x, 1, 320, 1, 100);
        x.limit(0, 100);
        DUE.same("site 0 goes by its new limit", 100, () -> x.sum(0));
        DUE.same("site 1 keeps its own", 320, () -> x.sum(1));
        x.limit(1, 0);
        DUE.same("limit 0", 0, () -> x.sum(1));
        x.limit(1, 2000);
        DUE.same("limit 2000", 320, () -> x.sum(1));
        DUE.noIndex("limit(2, 5)", () -> x.limit(2, 5));
        DUE.noIndex("limit(-1, 5)", () -> x.limit(-1, 5));
        DUE.noIndex("limit(2, -1): the site comes first", () -> x.limit(2, -1));
        DUE.noArgument("limit(0, 2001)", () -> x.limit(0, 2001));
        DUE.noArgument("limit(0, -1)", () -> x.limit(0, -1));
        DUE.same("a limit that throws changes nothing", 100, () -> x.sum(0));
    }

    private static void band() {
        OutletOffice x = new OutletOffice();
        x.band(0, 0, 0);
        x.band(3, 1439, 100000);
        DUE.noIndex("band(4, 0, 0)", () -> x.band(4, 0, 0));
        DUE.noIndex("band(-1, 0, 0)", () -> x.band(-1, 0, 0));
        DUE.noIndex("band(4, 1440, -1): the band comes first", () -> x.band(4, 1440, -1));
        DUE.noArgument("band(0, 1440, 0)", () -> x.band(0, 1440, 0));
        DUE.noArgument("band(0, -1, 0)", () -> x.band(0, -1, 0));
        DUE.noArgument("band(0, 0, 100001)", () -> x.band(0, 0, 100001));
        DUE.noArgument("band(0, 0, -1)", () -> x.band(0, 0, -1));
    }

    private static void fees() {
        OutletOffice x = Scene.withGoodCards();
        x.fees(1000000, 1000000);
        x.fees(0, 0);
        x.fees(123, 77);
        DUE.noArgument("fees(-1, 0)", () -> x.fees(-1, 0));
        DUE.noArgument("fees(0, -1)", () -> x.fees(0, -1));
        DUE.noArgument("fees(1000001, 0)", () -> x.fees(1000001, 0));
        DUE.noArgument("fees(5, 1000001)", () -> x.fees(5, 1000001));
        Scene.begin(x, 0, 320, 1, 1);
        x.pass(1);
        x.carry(0);
        DUE.same("the start fee, unchanged by fees that throw", 123, () -> x.open(0));
    }

    private static void card() {
        OutletOffice x = new OutletOffice();
        x.car(0, 100, 1, 1);
        x.card(7, 1, 15);
        DUE.noIndex("card(16, 0, 0)", () -> x.card(16, 0, 0));
        DUE.noIndex("card(-1, 0, 0)", () -> x.card(-1, 0, 0));
        DUE.noIndex("card(16, 2, 0): the card comes first", () -> x.card(16, 2, 0));
        DUE.noArgument("card(7, 2, 0)", () -> x.card(7, 2, 0));
        DUE.noArgument("card(7, -1, 0)", () -> x.card(7, -1, 0));
        DUE.noArgument("card(7, 0, 16)", () -> x.card(7, 0, 16));
        DUE.noArgument("card(7, 0, -1)", () -> x.card(7, 0, -1));
        DUE.same("card 7 is still good", 1, () -> x.show(0, 7));
        x.card(8, 0, 15);
        DUE.same("card 8 is of the same group", 2, () -> x.show(0, 8));
        x.card(7, 0, 15);
        DUE.same("card 7 is good no more", 0, () -> x.show(0, 7));
    }
}
