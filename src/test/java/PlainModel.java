import java.util.ArrayDeque;
import java.util.ArrayList;
import java.util.List;

/**
 * The document told again, as slowly and plainly as it reads: second by second, with no step
 * taken together. It knows no exceptions; the caller hands it good arguments only.
 */
final class PlainModel {
    private record Told(char kind, int number, int session, int card, int time, int w, int idle) {
    }

    private static final class Spot {
        boolean power = true;
        boolean line = true;
        long meter = 0;
        int session = 0;
        int card = -1;
        int sessions = 0;
        int next = 1;
        final ArrayDeque<Told> queue = new ArrayDeque<>();
        int underWay = 0;
        int sentNumber = 0;
        int sentTime = 0;
        boolean car = false;
        boolean full = false;
        int wants = 0;
        int weight = 0;
        long hunger = 0;
        int fullFrom = 0;
        int[] status = new int[16];
        int[] group = new int[16];
        int latestTaken = 0;
        boolean open = false;
        int billSession = 0;
        int billCard = 0;
        long billSum = 0;
        int billFirst = 0;
        int billW = 0;
        int billTime = 0;

        boolean runs() {
            return session > 0 && power;
        }

        boolean active() {
            return runs() && wants >= 60;
        }

        void put(char kind, int time, int idle) {
            queue.add(new Told(kind, next, session, card, time, (int) (meter / 3600), idle));
            next++;
        }

        void end(int time, int idle) {
            put('E', time, idle);
            session = 0;
            card = -1;
        }
    }

    private final Spot[] spots = new Spot[6];
    private final int[] limits = {480, 480};
    private final int[] minutes = {-1, -1, -1, -1};
    private final int[] prices = new int[4];
    private final int[] status = new int[16];
    private final int[] group = new int[16];
    private final List<int[]> closed = new ArrayList<>();
    private int startFee = 0;
    private int idleFee = 0;
    private int time = 0;

    PlainModel() {
        for (int p = 0; p < 6; p++) {
            spots[p] = new Spot();
        }
    }

    void limit(int site, int tenths) {
        limits[site] = tenths;
    }

    void band(int band, int minute, int price) {
        minutes[band] = minute;
        prices[band] = price;
    }

    void fees(int start, int idle) {
        startFee = start;
        idleFee = idle;
    }

    void card(int card, int itsStatus, int itsGroup) {
        status[card] = itsStatus;
        group[card] = itsGroup;
    }

    boolean copy(int point) {
        Spot s = spots[point];
        if (s.power && s.line) {
            s.status = status.clone();
            s.group = group.clone();
            return true;
        }
        return false;
    }

    boolean car(int point, int wants, int weight, int hours) {
        Spot s = spots[point];
        if (s.car) {
            return false;
        }
        s.car = true;
        s.full = false;
        s.wants = wants;
        s.weight = weight;
        s.hunger = 3600L * hours;
        return true;
    }

    boolean want(int point, int wants) {
        Spot s = spots[point];
        if (s.car && !s.full) {
            s.wants = wants;
            return true;
        }
        return false;
    }

    boolean leave(int point) {
        Spot s = spots[point];
        if (!s.car) {
            return false;
        }
        if (s.runs()) {
            s.end(time, s.full ? time - s.fullFrom : 0);
        }
        s.car = false;
        s.full = false;
        s.wants = 0;
        return true;
    }

    int show(int point, int card) {
        Spot s = spots[point];
        int[] goodness = s.line ? status : s.status;
        int[] groups = s.line ? group : s.group;
        if (s.power && s.car && s.session == 0 && s.queue.size() <= 20 && goodness[card] == 1) {
            s.sessions++;
            s.session = s.sessions;
            s.card = card;
            s.put('B', time, 0);
            return 1;
        }
        if (s.runs() && (s.card == card || groups[card] > 0 && groups[card] == groups[s.card])) {
            s.end(time, s.full ? time - s.fullFrom : 0);
            return 2;
        }
        return 0;
    }

    void line(int point, boolean on) {
        spots[point].line = on;
        if (!on) {
            spots[point].underWay = 0;
        }
    }

    void power(int point, boolean on) {
        Spot s = spots[point];
        if (on && !s.power) {
            s.power = true;
            if (s.session > 0) {
                s.end(time, 0);
            }
        }
        if (!on) {
            s.power = false;
            s.underWay = 0;
        }
    }

    int carry(int point) {
        Spot s = spots[point];
        if (s.underWay == 1) {
            takeIn(point, s.queue.peek());
            s.underWay = 2;
            return 1;
        }
        if (s.underWay == 2) {
            s.queue.remove();
            s.underWay = 0;
            return 2;
        }
        return 0;
    }

    boolean lose(int point) {
        boolean was = spots[point].underWay > 0;
        spots[point].underWay = 0;
        return was;
    }

    private int priceAt(int when) {
        int minute = when / 60 % 1440;
        int best = -1;
        for (int b = 3; b >= 0; b--) {
            if (minutes[b] >= 0 && minutes[b] <= minute && (best < 0 || minutes[b] >= minutes[best])) {
                best = b;
            }
        }
        if (best < 0) {
            for (int b = 3; b >= 0; b--) {
                if (minutes[b] >= 0 && (best < 0 || minutes[b] >= minutes[best])) {
                    best = b;
                }
            }
        }
        return best < 0 ? 0 : prices[best];
    }

    private void takeIn(int point, Told told) {
        Spot s = spots[point];
        if (told.number() != s.latestTaken + 1) {
            return;
        }
        s.latestTaken++;
        if (told.kind() == 'B') {
            s.open = true;
            s.billSession = told.session();
            s.billCard = told.card();
            s.billSum = startFee;
            s.billFirst = told.w();
            s.billW = told.w();
            s.billTime = told.time();
            return;
        }
        s.billSum += (told.w() - s.billW) * (long) priceAt(s.billTime);
        s.billW = told.w();
        s.billTime = told.time();
        if (told.kind() == 'E') {
            s.billSum += told.idle() / 60 * (long) idleFee;
            s.open = false;
            int cents = (int) ((s.billSum + 5000) / 10000);
            closed.add(new int[] {point, s.billSession, s.billCard, cents, s.billW - s.billFirst});
        }
    }

    private int[] currents() {
        int[] takes = new int[6];
        for (int site = 0; site < 2; site++) {
            int safe = limits[site] / 3 < 60 ? 0 : limits[site] / 3;
            int left = limits[site];
            for (int p = site; p < 6; p += 2) {
                if (!spots[p].line) {
                    left -= safe;
                    takes[p] = spots[p].active() ? Math.min(safe, spots[p].wants) : 0;
                }
            }
            List<Integer> chosen = new ArrayList<>();
            for (int k = 0; k < 3; k++) {
                int p = site + 2 * ((time / 900 + k) % 3);
                if (spots[p].line && spots[p].active() && chosen.size() < left / 60) {
                    chosen.add(p);
                }
            }
            for (int v = 0; v <= 320; v++) {
                int all = 0;
                for (int p : chosen) {
                    all += at(p, v);
                }
                if (all <= left) {
                    for (int p : chosen) {
                        takes[p] = at(p, v);
                    }
                }
            }
        }
        return takes;
    }

    private int at(int p, int v) {
        return Math.min(spots[p].wants, Math.max(60, v * spots[p].weight));
    }

    int pass(int seconds) {
        for (int k = 0; k < seconds; k++) {
            second();
        }
        return time;
    }

    private void second() {
        boolean idle = true;
        for (Spot s : spots) {
            idle &= !s.active();
        }
        int[] takes = idle ? new int[6] : currents();
        for (int p = 0; p < 6; p++) {
            Spot s = spots[p];
            if (s.runs()) {
                s.meter += 23L * takes[p];
                long before = s.hunger;
                s.hunger -= 23L * takes[p];
                if (before > 0 && s.hunger <= 0) {
                    s.full = true;
                    s.fullFrom = time + 1;
                    s.wants = 0;
                }
            }
        }
        time++;
        for (Spot s : spots) {
            if (time % 60 == 0 && s.runs() && s.queue.size() < 22) {
                s.put('R', time, 0);
            }
        }
        for (Spot s : spots) {
            if (s.power && s.line && !s.queue.isEmpty() && s.underWay == 0) {
                int number = s.queue.peek().number();
                if (s.sentNumber != number || time - s.sentTime >= 20) {
                    s.sentNumber = number;
                    s.sentTime = time;
                    s.underWay = 1;
                }
            }
        }
    }

    int time() {
        return time;
    }

    int current(int point) {
        return currents()[point];
    }

    int sum(int site) {
        int[] takes = currents();
        return takes[site] + takes[site + 2] + takes[site + 4];
    }

    long meter(int point) {
        return spots[point].meter;
    }

    int about(int point, int what) {
        Spot s = spots[point];
        int presence = s.car ? s.full ? 2 : 1 : 0;
        int first = s.queue.isEmpty() ? 0 : s.queue.peek().number();
        return new int[] {s.queue.size(), s.underWay, s.session, s.card, presence, first}[what];
    }

    long open(int point) {
        return spots[point].open ? spots[point].billSum : -1;
    }

    int bills() {
        return closed.size();
    }

    int bill(int i, int what) {
        return closed.get(i)[what];
    }

    long total(int card) {
        long all = 0;
        for (int[] row : closed) {
            all += row[2] == card ? row[3] : 0;
        }
        return all;
    }
}
