/** The example of README.md answers what is told there. */
public final class UseTest {
    public static void main(String[] args) {
        Due due = new Due();
        OutletOffice x = new OutletOffice();
        due.quiet("card(1, 1, 0)", () -> x.card(1, 1, 0));
        due.quiet("fees(500000, 2000)", () -> x.fees(500000, 2000));
        due.quiet("band(0, 0, 250)", () -> x.band(0, 0, 250));
        due.yes("car(0, 160, 1, 10)", x.car(0, 160, 1, 10));
        due.same("show(0, 1)", 1, () -> x.show(0, 1));
        due.same("current(0)", 160, () -> x.current(0));
        due.same("pass(60)", 60, () -> x.pass(60));
        due.same("about(0, 4)", 2, () -> x.about(0, 4));
        due.same("show(0, 1)", 2, () -> x.show(0, 1));
        int messages = 0;
        while (messages < 24 && x.about(0, 0) > 0) {
            messages++;
            due.same("carry(0)", 1, () -> x.carry(0));
            due.same("carry(0)", 2, () -> x.carry(0));
            x.pass(1);
        }
        due.is("START, READING and STOP", 3, messages);
        due.same("bills()", 1, x::bills);
        due.same("bill(0, 2)", 1, () -> x.bill(0, 2));
        due.same("bill(0, 3)", 50, () -> x.bill(0, 3));
        due.same("bill(0, 4)", 10, () -> x.bill(0, 4));
        due.same("total(1)", 50, () -> x.total(1));
        due.end();
    }
}
