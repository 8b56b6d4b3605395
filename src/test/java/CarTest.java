/** Promises 7 to 9: car, want, leave. */
public final class CarTest {
    private static final Due DUE = new Due();

    public static void main(String[] args) {
        carComes();
        hungerToTheLast();
        carRefuses();
        want();
        wantOfFull();
        leave();
        leaveWithoutPower();
        DUE.end();
    }

    private static void carComes() {
        OutletOffice x = Scene.withGoodCards();
        DUE.yes("a car comes", x.car(0, 100, 2, 1));
        DUE.no("there is one already", x.car(0, 200, 3, 2));
        DUE.same("about a car", 1, () -> x.about(0, 4));
        DUE.same("no car elsewhere", 0, () -> x.about(1, 4));
        x.show(0, 0);
        DUE.same("the first car's wants", 100, () -> x.current(0));
        // 3600 watt-seconds at 2300 watts: the second one fills it.
        x.pass(1);
        DUE.same("not full yet", 1, () -> x.about(0, 4));
        x.pass(1);
        DUE.same("full", 2, () -> x.about(0, 4));
        DUE.same("metered", 4600, () -> x.meter(0));
        x.pass(10);
        DUE.same("a full car takes nothing", 4600, () -> x.meter(0));
        x.power(1, false);
        x.line(1, false);
        DUE.yes("a car needs no power", x.car(1, 0, 9, 100000));
    }

    private static void hungerToTheLast() {
        OutletOffice x = Scene.withGoodCards();
        // 23 watt-hours are 36 seconds at 2300 watts, to the watt-second.
        Scene.begin(x, 0, 100, 1, 23);
        x.pass(35);
        DUE.same("a second before", 1, () -> x.about(0, 4));
        x.pass(1);
        DUE.same("nothing left of the hunger", 2, () -> x.about(0, 4));
        x.pass(100);
        DUE.same("no more than that", 82800, () -> x.meter(0));
        Scene.begin(x, 1, 100, 1, 23);
        x.pass(1000);
        DUE.same("the same within one long call", 82800, () -> x.meter(1));
        // One watt-hour more wants two seconds more.
        Scene.begin(x, 3, 100, 1, 24);
        x.pass(1000);
        DUE.same("cut off to whole seconds", 38 * 2300, () -> x.meter(3));
        // 313 tenths leave one of 7200 watt-seconds after the first second.
        Scene.begin(x, 2, 313, 1, 2);
        x.pass(1);
        DUE.same("one watt-second is left", 1, () -> x.about(2, 4));
        x.pass(1);
        DUE.same("and eaten", 2, () -> x.about(2, 4));
        Scene.begin(x, 5, 320, 1, 100000);
        x.pass(48913);
        DUE.same("the greatest hunger, nearly", 1, () -> x.about(5, 4));
        x.pass(1);
        DUE.same("the greatest hunger", 2, () -> x.about(5, 4));
    }

    private static void carRefuses() {
        OutletOffice x = new OutletOffice();
        DUE.noIndex("car(6, ..)", () -> x.car(6, 1, 1, 1));
        DUE.noIndex("car(-1, ..)", () -> x.car(-1, 1, 1, 1));
        DUE.noIndex("the point comes first", () -> x.car(6, 321, 0, 0));
        DUE.noArgument("wants 321", () -> x.car(0, 321, 1, 1));
        DUE.noArgument("wants -1", () -> x.car(0, -1, 1, 1));
        DUE.noArgument("weight 0", () -> x.car(0, 1, 0, 1));
        DUE.noArgument("weight 10", () -> x.car(0, 1, 10, 1));
        DUE.noArgument("hours 0", () -> x.car(0, 1, 1, 0));
        DUE.noArgument("hours 100001", () -> x.car(0, 1, 1, 100001));
        DUE.same("no car came", 0, () -> x.about(0, 4));
        DUE.yes("the greatest numbers", x.car(0, 320, 9, 100000));
        DUE.noArgument("a wrong number where a car stands", () -> x.car(0, 321, 1, 1));
    }

    private static void want() {
        OutletOffice x = Scene.withGoodCards();
        DUE.no("no car to want", x.want(0, 100));
        Scene.begin(x, 0, 100, 1, 100);
        DUE.yes("it wants more", x.want(0, 200));
        DUE.same("and takes it", 200, () -> x.current(0));
        DUE.yes("the same again", x.want(0, 200));
        DUE.yes("less than the least", x.want(0, 59));
        DUE.same("takes nothing", 0, () -> x.current(0));
        DUE.yes("nothing", x.want(0, 0));
        DUE.yes("the most", x.want(0, 320));
        DUE.noArgument("want 321", () -> x.want(0, 321));
        DUE.noArgument("want -1", () -> x.want(0, -1));
        DUE.noArgument("want 321 without a car", () -> x.want(1, 321));
        DUE.noIndex("want(6, ..)", () -> x.want(6, 321));
        DUE.noIndex("want(-1, ..)", () -> x.want(-1, 5));
        DUE.same("unchanged", 320, () -> x.current(0));
    }

    private static void wantOfFull() {
        OutletOffice x = Scene.withGoodCards();
        Scene.begin(x, 0, 320, 1, 1);
        x.pass(1);
        DUE.same("full", 2, () -> x.about(0, 4));
        DUE.no("a full car wants nothing", x.want(0, 100));
        DUE.same("takes nothing", 0, () -> x.current(0));
        x.leave(0);
        x.car(0, 100, 1, 1);
        DUE.same("the next car is not full", 1, () -> x.about(0, 4));
        DUE.yes("and may want", x.want(0, 120));
    }

    private static void leave() {
        OutletOffice x = Scene.withGoodCards();
        DUE.no("no car to leave", x.leave(0));
        x.car(0, 100, 1, 5);
        DUE.yes("it goes", x.leave(0));
        DUE.same("nothing is told of it", 0, () -> x.about(0, 0));
        DUE.same("gone", 0, () -> x.about(0, 4));
        Scene.begin(x, 0, 100, 1, 5);
        DUE.yes("it goes in a session", x.leave(0));
        DUE.same("the session ended", 0, () -> x.about(0, 2));
        DUE.same("no card", -1, () -> x.about(0, 3));
        DUE.same("start and stop", 2, () -> x.about(0, 0));
        DUE.noIndex("leave(6)", () -> x.leave(6));
        DUE.noIndex("leave(-1)", () -> x.leave(-1));
    }

    private static void leaveWithoutPower() {
        OutletOffice x = Scene.withGoodCards();
        Scene.begin(x, 0, 100, 1, 5);
        x.power(0, false);
        DUE.yes("it goes without power", x.leave(0));
        DUE.same("the session stays", 1, () -> x.about(0, 2));
        DUE.same("only the start is told", 1, () -> x.about(0, 0));
    }
}
