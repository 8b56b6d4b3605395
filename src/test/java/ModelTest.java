import java.util.Random;

/** Long runs of calls, drawn from fixed seeds, answered as the plain model answers them. */
public final class ModelTest {
    private static final int RUNS = 400;
    private static final int CALLS = 512;
    private static final int CALLS_TO_BRING_HOME = 12 + 23 * 13;

    private final Due due;
    private final Random draw;
    private final String run;
    private final OutletOffice x = new OutletOffice();
    private final PlainModel m = new PlainModel();
    // Runs differ in how often the line and the power fail, else few sessions would ever be billed.
    private final int troubles;
    private final int longest;
    // Every third run draws its numbers from those that the document names and their neighbours.
    private final boolean atEdges;
    private int calls = 0;

    private ModelTest(Due due, int seed) {
        this.due = due;
        this.draw = new Random(seed);
        this.run = "run " + seed + ", call ";
        this.troubles = seed % 4;
        this.longest = new int[] {3, 70, 1000, 4000, 90000}[seed % 5];
        this.atEdges = seed % 3 == 0;
    }

    public static void main(String[] args) {
        Due due = new Due();
        int bills = 0;
        for (int seed = 0; seed < RUNS; seed++) {
            ModelTest test = new ModelTest(due, seed);
            test.goThrough();
            bills += test.m.bills();
        }
        due.yes("the runs close many bills: " + bills, bills > 2 * RUNS);
        due.end();
    }

    private void goThrough() {
        for (int card = 0; card < 8; card++) {
            setCard(card, 1);
        }
        // Every other run ends with all messages brought home, so that its bills are compared.
        boolean bringsHome = draw.nextBoolean();
        int most = bringsHome ? CALLS - CALLS_TO_BRING_HOME - 40 : CALLS;
        while (calls < most) {
            act();
            look();
        }
        if (bringsHome) {
            bringHome();
        }
        while (calls < CALLS) {
            look();
        }
    }

    private void bringHome() {
        for (int p = 0; p < 6; p++) {
            setLine(p, true);
            setPower(p, true);
        }
        for (int k = 0; k < 23; k++) {
            sendAll();
        }
    }

    private void setLine(int p, boolean on) {
        calls++;
        m.line(p, on);
        x.line(p, on);
    }

    private void setPower(int p, boolean on) {
        calls++;
        m.power(p, on);
        x.power(p, on);
    }

    private int upTo(int most) {
        return draw.nextInt(most + 1);
    }

    private int oneOf(int... numbers) {
        return numbers[draw.nextInt(numbers.length)];
    }

    private void same(String call, long answer, Due.Call made) {
        calls++;
        due.same(run + calls + ": " + call, answer, made);
    }

    private static long asLong(boolean b) {
        return b ? 1 : 0;
    }

    private void setCard(int card, int status) {
        int group = upTo(3);
        calls++;
        x.card(card, status, group);
        m.card(card, status, group);
    }

    private void act() {
        int p = upTo(5);
        int kind = upTo(29);
        if (kind < 3) {
            comeCar(p);
        } else if (kind < 11) {
            int card = drawCard(p);
            same("show " + p + " " + card, m.show(p, card), () -> x.show(p, card));
        } else if (kind < 15) {
            carrySome(p);
        } else if (kind < 19) {
            passSome();
        } else if (kind == 19) {
            same("leave " + p, asLong(m.leave(p)), () -> asLong(x.leave(p)));
        } else if (kind == 20) {
            int wants = drawWants();
            same("want " + p + " " + wants, asLong(m.want(p, wants)), () -> asLong(x.want(p, wants)));
        } else if (kind == 21) {
            set();
        } else if (kind == 22) {
            sendAll();
        } else if (kind < 23 + 2 * troubles) {
            trouble(p);
        } else {
            comeCar(p);
        }
    }

    /** Often the card that ends the session, else few of them would. */
    private int drawCard(int p) {
        int own = m.about(p, 3);
        if (own >= 0 && upTo(1) == 0) {
            return own;
        }
        return upTo(15) == 0 ? upTo(15) : upTo(7);
    }

    private int drawWants() {
        if (atEdges) {
            return oneOf(0, 59, 60, 61, 99, 100, 101, 313, 319, 320);
        }
        int kind = upTo(7);
        return kind == 0 ? upTo(320) : kind == 1 ? 58 + upTo(4) : 60 + upTo(260);
    }

    private int drawHours() {
        if (atEdges) {
            return oneOf(1, 2, 22, 23, 24, 100000);
        }
        return upTo(2) == 0 ? 1 + upTo(99999) : 1 + upTo(300);
    }

    private void comeCar(int p) {
        int wants = drawWants();
        int weight = atEdges ? oneOf(1, 2, 9) : 1 + upTo(8);
        int hours = drawHours();
        String call = "car " + p + " " + wants + " " + weight + " " + hours;
        same(call, asLong(m.car(p, wants, weight, hours)), () -> asLong(x.car(p, wants, weight, hours)));
    }

    private void carrySome(int p) {
        for (int k = upTo(2); k >= 0; k--) {
            same("carry " + p, m.carry(p), () -> x.carry(p));
        }
    }

    private int drawSeconds() {
        if (atEdges) {
            int toMinute = 60 - m.time() % 60;
            int toTurn = 900 - m.time() % 900;
            int near = oneOf(0, 1, 2, 19, 20, 21, 35, 36, toMinute, toMinute, toTurn);
            return upTo(2) == 0 ? Math.max(0, near - 1) : near;
        }
        return upTo(3) == 0 ? Math.min(86400, upTo(longest)) : upTo(25);
    }

    private void passSome() {
        int seconds = drawSeconds();
        same("pass " + seconds, m.pass(seconds), () -> x.pass(seconds));
    }

    private void sendAll() {
        same("pass 1", m.pass(1), () -> x.pass(1));
        for (int k = 0; k < 6; k++) {
            int p = k;
            same("carry " + p, m.carry(p), () -> x.carry(p));
            same("carry " + p, m.carry(p), () -> x.carry(p));
        }
    }

    private void trouble(int p) {
        boolean on = upTo(2) > 0;
        int kind = upTo(3);
        if (kind == 0) {
            same("lose " + p, asLong(m.lose(p)), () -> asLong(x.lose(p)));
        } else if (kind == 1) {
            same("copy " + p, asLong(m.copy(p)), () -> asLong(x.copy(p)));
        } else if (kind == 2) {
            setLine(p, on);
        } else {
            setPower(p, on);
        }
    }

    private int drawLimit() {
        if (atEdges) {
            int third = oneOf(59, 60, 61, 99, 100, 101, 319, 320, 321);
            return oneOf(0, 2000, third, 2 * third, 3 * third, 3 * third - 1, 3 * third + 1);
        }
        return upTo(2) == 0 ? upTo(2000) : upTo(500);
    }

    private int drawFee() {
        return atEdges ? oneOf(0, 1, 4999, 5000, 5001, 1000000) : upTo(1000000);
    }

    private void set() {
        int kind = upTo(3);
        if (kind == 0) {
            int site = upTo(1);
            int tenths = drawLimit();
            x.limit(site, tenths);
            m.limit(site, tenths);
        } else if (kind == 1) {
            int band = upTo(3);
            int minute = atEdges ? oneOf(0, 1, 2, 15, 1438, 1439) : upTo(1) == 0 ? upTo(1439) : upTo(5);
            int price = atEdges ? oneOf(0, 1, 4999, 5000, 100000) : upTo(100000);
            x.band(band, minute, price);
            m.band(band, minute, price);
        } else if (kind == 2) {
            int start = drawFee();
            int idle = drawFee();
            x.fees(start, idle);
            m.fees(start, idle);
        } else {
            setCard(upTo(15), upTo(4) == 0 ? 0 : 1);
        }
        calls++;
    }

    private void look() {
        int p = upTo(5);
        int what = upTo(5);
        int site = upTo(1);
        int card = upTo(15);
        int field = upTo(4);
        int kind = upTo(7);
        if (kind == 0) {
            same("current " + p, m.current(p), () -> x.current(p));
        } else if (kind == 1) {
            same("sum " + site, m.sum(site), () -> x.sum(site));
        } else if (kind == 2) {
            same("meter " + p, m.meter(p), () -> x.meter(p));
        } else if (kind == 3) {
            same("about " + p + " " + what, m.about(p, what), () -> x.about(p, what));
        } else if (kind == 4) {
            same("open " + p, m.open(p), () -> x.open(p));
        } else if (kind == 5) {
            same("total " + card, m.total(card), () -> x.total(card));
        } else if (kind == 6) {
            same("bills", m.bills(), x::bills);
        } else if (m.bills() == 0) {
            calls++;
            due.noIndex(run + calls + ": bill 0", () -> x.bill(0, field));
        } else {
            int i = upTo(m.bills() - 1);
            same("bill " + i + " " + field, m.bill(i, field), () -> x.bill(i, field));
        }
    }
}
