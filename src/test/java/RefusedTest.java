/**
 * All promises: a call that throws changes nothing, of several exceptions the one named first is thrown,
 * and a call that answers no, or only asks, changes nothing either.
 */
public final class RefusedTest {
    private interface Made {
        void on(OutletOffice x);
    }

    private static final Due DUE = new Due();
    private static final String UNCHANGED = Story.of(Story.scene());
    private static final int LEAST = Integer.MIN_VALUE;
    private static final int GREATEST = Integer.MAX_VALUE;

    public static void main(String[] args) {
        storiesTellApart();
        for (int point : new int[] {-1, 6, LEAST, GREATEST}) {
            noSuchPoint(point);
        }
        noSuchSite();
        noSuchCard();
        noSuchBand();
        noSuchBill();
        limitOutOfRange();
        bandOutOfRange();
        feesOutOfRange();
        cardOutOfRange();
        carOutOfRange();
        wantOutOfRange();
        passOutOfRange();
        whatOutOfRange();
        firstNamedComesFirst();
        answersNo();
        onlyAsks();
        DUE.end();
    }

    private static void noIndex(String call, Made made) {
        OutletOffice x = Story.scene();
        DUE.noIndex(call, () -> made.on(x));
        DUE.yes(call + " changes nothing", Story.of(x).equals(UNCHANGED));
    }

    private static void noArgument(String call, Made made) {
        OutletOffice x = Story.scene();
        DUE.noArgument(call, () -> made.on(x));
        DUE.yes(call + " changes nothing", Story.of(x).equals(UNCHANGED));
    }

    private static void no(String call, Made made) {
        OutletOffice x = Story.scene();
        DUE.quiet(call, () -> made.on(x));
        DUE.yes(call + " changes nothing", Story.of(x).equals(UNCHANGED));
    }

    private static void changes(String call, Made made) {
        OutletOffice x = Story.scene();
        DUE.quiet(call, () -> made.on(x));
        DUE.no(call + " is not seen in the story", Story.of(x).equals(UNCHANGED));
    }

    /** Else the tests below would see no change where there is one. */
    private static void storiesTellApart() {
        changes("limit(0, 299)", x -> x.limit(0, 299));
        changes("limit(1, 349)", x -> x.limit(1, 349));
        changes("band(0, 0, 4)", x -> x.band(0, 0, 4));
        changes("band(1, 3, 50)", x -> x.band(1, 3, 50));
        changes("band(2, 4, 701)", x -> x.band(2, 4, 701));
        changes("band(3, 5, 100000)", x -> x.band(3, 5, 100000));
        changes("fees(700000, 30000)", x -> x.fees(700000, 30000));
        changes("fees(700001, 20000)", x -> x.fees(700001, 20000));
        changes("card(8, 0, 0)", x -> x.card(8, 0, 0));
        changes("card(8, 1, 3)", x -> x.card(8, 1, 3));
        changes("card(12, 1, 15)", x -> x.card(12, 1, 15));
        changes("copy(1) with the line back", x -> {
            x.line(1, true);
            x.copy(1);
            x.line(1, false);
        });
        changes("car(4, 70, 1, 1)", x -> x.car(4, 70, 1, 1));
        changes("want(0, 299)", x -> x.want(0, 299));
        changes("leave(1)", x -> x.leave(1));
        changes("show(0, 0)", x -> x.show(0, 0));
        changes("line(0, false)", x -> x.line(0, false));
        changes("power(5, false)", x -> x.power(5, false));
        changes("carry(0)", x -> x.carry(0));
        changes("lose(5)", x -> x.lose(5));
        changes("pass(1)", x -> x.pass(1));
    }

    private static void noSuchPoint(int point) {
        noIndex("copy(" + point + ")", x -> x.copy(point));
        noIndex("car(" + point + ", ..)", x -> x.car(point, 100, 1, 1));
        noIndex("want(" + point + ", 100)", x -> x.want(point, 100));
        noIndex("leave(" + point + ")", x -> x.leave(point));
        noIndex("show(" + point + ", 0)", x -> x.show(point, 0));
        noIndex("line(" + point + ", true)", x -> x.line(point, true));
        noIndex("line(" + point + ", false)", x -> x.line(point, false));
        noIndex("power(" + point + ", true)", x -> x.power(point, true));
        noIndex("power(" + point + ", false)", x -> x.power(point, false));
        noIndex("carry(" + point + ")", x -> x.carry(point));
        noIndex("lose(" + point + ")", x -> x.lose(point));
        noIndex("current(" + point + ")", x -> x.current(point));
        noIndex("meter(" + point + ")", x -> x.meter(point));
        noIndex("about(" + point + ", 0)", x -> x.about(point, 0));
        noIndex("open(" + point + ")", x -> x.open(point));
    }

    private static void noSuchSite() {
        for (int site : new int[] {-1, 2, LEAST, GREATEST}) {
            noIndex("limit(" + site + ", 100)", x -> x.limit(site, 100));
            noIndex("sum(" + site + ")", x -> x.sum(site));
        }
    }

    private static void noSuchCard() {
        for (int card : new int[] {-1, 16, LEAST, GREATEST}) {
            noIndex("card(" + card + ", 1, 1)", x -> x.card(card, 1, 1));
            noIndex("show(0, " + card + ")", x -> x.show(0, card));
            noIndex("show(4, " + card + ") without a car", x -> x.show(4, card));
            noIndex("total(" + card + ")", x -> x.total(card));
        }
    }

    private static void noSuchBand() {
        for (int band : new int[] {-1, 4, LEAST, GREATEST}) {
            noIndex("band(" + band + ", 0, 9)", x -> x.band(band, 0, 9));
        }
    }

    private static void noSuchBill() {
        DUE.is("bills in the scene", 1, Story.scene().bills());
        for (int i : new int[] {-1, 1, 2, 127, 128, LEAST, GREATEST}) {
            for (int what = 0; what < 5; what++) {
                int field = what;
                noIndex("bill(" + i + ", " + what + ")", x -> x.bill(i, field));
            }
        }
    }

    private static void limitOutOfRange() {
        for (int tenths : new int[] {-1, 2001, LEAST, GREATEST}) {
            noArgument("limit(0, " + tenths + ")", x -> x.limit(0, tenths));
            noArgument("limit(1, " + tenths + ")", x -> x.limit(1, tenths));
        }
    }

    private static void bandOutOfRange() {
        for (int band = 0; band < 4; band++) {
            int b = band;
            for (int minute : new int[] {-1, 1440, LEAST, GREATEST}) {
                noArgument("band(" + b + ", " + minute + ", 9)", x -> x.band(b, minute, 9));
            }
            for (int price : new int[] {-1, 100001, LEAST, GREATEST}) {
                noArgument("band(" + b + ", 5, " + price + ")", x -> x.band(b, 5, price));
            }
            noArgument("band(" + b + ", 1440, 100001)", x -> x.band(b, 1440, 100001));
        }
    }

    private static void feesOutOfRange() {
        for (int fee : new int[] {-1, 1000001, LEAST, GREATEST}) {
            noArgument("fees(" + fee + ", 0)", x -> x.fees(fee, 0));
            noArgument("fees(0, " + fee + ")", x -> x.fees(0, fee));
            noArgument("fees(" + fee + ", " + fee + ")", x -> x.fees(fee, fee));
        }
    }

    private static void cardOutOfRange() {
        for (int status : new int[] {-1, 2, LEAST, GREATEST}) {
            noArgument("card(8, " + status + ", 3)", x -> x.card(8, status, 3));
        }
        for (int group : new int[] {-1, 16, LEAST, GREATEST}) {
            noArgument("card(8, 0, " + group + ")", x -> x.card(8, 0, group));
        }
        noArgument("card(8, 2, 16)", x -> x.card(8, 2, 16));
    }

    /** At point 4, where a car could come, and at point 0, where one stands. */
    private static void carOutOfRange() {
        for (int point = 0; point < 5; point += 4) {
            int p = point;
            for (int wants : new int[] {-1, 321, LEAST, GREATEST}) {
                noArgument("car(" + p + ", " + wants + ", 1, 1)", x -> x.car(p, wants, 1, 1));
            }
            for (int weight : new int[] {-1, 0, 10, LEAST, GREATEST}) {
                noArgument("car(" + p + ", 100, " + weight + ", 1)", x -> x.car(p, 100, weight, 1));
            }
            for (int hours : new int[] {-1, 0, 100001, LEAST, GREATEST}) {
                noArgument("car(" + p + ", 100, 1, " + hours + ")", x -> x.car(p, 100, 1, hours));
            }
            noArgument("car(" + p + ", 321, 0, 0)", x -> x.car(p, 321, 0, 0));
        }
    }

    /** At a car that could want, a full one, and none. */
    private static void wantOutOfRange() {
        for (int point = 0; point < 5; point += 2) {
            int p = point;
            for (int wants : new int[] {-1, 321, LEAST, GREATEST}) {
                noArgument("want(" + p + ", " + wants + ")", x -> x.want(p, wants));
            }
        }
    }

    private static void passOutOfRange() {
        for (int seconds : new int[] {-1, 86401, LEAST, GREATEST}) {
            noArgument("pass(" + seconds + ")", x -> x.pass(seconds));
        }
    }

    private static void whatOutOfRange() {
        for (int what : new int[] {-1, 6, LEAST, GREATEST}) {
            noArgument("about(0, " + what + ")", x -> x.about(0, what));
        }
        for (int what : new int[] {-1, 5, LEAST, GREATEST}) {
            noArgument("bill(0, " + what + ")", x -> x.bill(0, what));
        }
    }

    private static void firstNamedComesFirst() {
        noIndex("limit(2, 2001)", x -> x.limit(2, 2001));
        noIndex("limit(-1, -1)", x -> x.limit(-1, -1));
        noIndex("band(4, 1440, 5)", x -> x.band(4, 1440, 5));
        noIndex("band(4, 5, 100001)", x -> x.band(4, 5, 100001));
        noIndex("band(-1, -1, -1)", x -> x.band(-1, -1, -1));
        noIndex("card(16, 2, 0)", x -> x.card(16, 2, 0));
        noIndex("card(16, 0, 16)", x -> x.card(16, 0, 16));
        noIndex("card(-1, -1, -1)", x -> x.card(-1, -1, -1));
        noIndex("car(6, 321, 1, 1)", x -> x.car(6, 321, 1, 1));
        noIndex("car(6, 1, 10, 1)", x -> x.car(6, 1, 10, 1));
        noIndex("car(6, 1, 1, 100001)", x -> x.car(6, 1, 1, 100001));
        noIndex("car(-1, -1, 0, 0)", x -> x.car(-1, -1, 0, 0));
        noIndex("want(6, 321)", x -> x.want(6, 321));
        noIndex("want(-1, -1)", x -> x.want(-1, -1));
        noIndex("about(6, 6)", x -> x.about(6, 6));
        noIndex("about(-1, -1)", x -> x.about(-1, -1));
        noIndex("bill(1, 5)", x -> x.bill(1, 5));
        noIndex("bill(-1, -1)", x -> x.bill(-1, -1));
        noIndex("show(6, 16)", x -> x.show(6, 16));
    }

    private static void answersNo() {
        no("copy without line", x -> DUE.no("copy(1)", x.copy(1)));
        no("copy without power", x -> DUE.no("copy(3)", x.copy(3)));
        no("a car where one stands", x -> DUE.no("car(0, ..)", x.car(0, 60, 9, 1)));
        no("a car where a full one stands", x -> DUE.no("car(2, ..)", x.car(2, 60, 9, 1)));
        no("want without a car", x -> DUE.no("want(4, 100)", x.want(4, 100)));
        no("want of a full car", x -> DUE.no("want(2, 100)", x.want(2, 100)));
        no("leave without a car", x -> DUE.no("leave(4)", x.leave(4)));
        no("show without a car", x -> DUE.is("show(4, 0)", 0, x.show(4, 0)));
        no("show without power", x -> DUE.is("show(3, 6)", 0, x.show(3, 6)));
        no("show of another card", x -> DUE.is("show(0, 12)", 0, x.show(0, 12)));
        no("carry of nothing", x -> DUE.is("carry(1)", 0, x.carry(1)));
        no("lose of nothing", x -> DUE.no("lose(1)", x.lose(1)));
        no("no second", x -> DUE.is("pass(0)", x.time(), x.pass(0)));
        no("a line that is there", x -> x.line(0, true));
        no("a line that is not there", x -> x.line(1, false));
        no("power that is there", x -> x.power(0, true));
        no("power that is not there", x -> x.power(3, false));
    }

    private static void onlyAsks() {
        no("questions of points", x -> {
            for (int p = 0; p < 6; p++) {
                x.current(p);
                x.meter(p);
                x.open(p);
                for (int what = 0; what < 6; what++) {
                    x.about(p, what);
                }
            }
        });
        no("questions of all", x -> {
            x.sum(0);
            x.sum(1);
            x.time();
            x.bills();
            x.total(0);
            x.total(15);
            for (int what = 0; what < 5; what++) {
                x.bill(0, what);
            }
        });
    }
}
