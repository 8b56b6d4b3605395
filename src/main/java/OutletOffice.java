/**
 * Charging points for cars at two sites, and their office. Currents are tenths of an ampere, meters
 * count watt-seconds, messages and bills watt-hours; fees, prices and sums are 1/10000 of a cent.
 */
public final class OutletOffice {
    private static final int SITES = 2;
    private static final int PLACES = 3;
    private static final int POINTS = SITES * PLACES;
    private static final int CARDS = 16;
    private static final int GROUPS = 16;
    private static final int BANDS = 4;

    private static final int MOST_LIMIT = 2000;
    private static final int MOST_CURRENT = 320;
    private static final int MOST_WEIGHT = 9;
    private static final int MOST_HOURS = 100000;
    private static final int MOST_PRICE = 100000;
    private static final int MOST_FEE = 1000000;
    private static final int MOST_TIME = 1000000000;
    private static final int DAY_MINUTES = 1440;
    private static final int DAY_SECONDS = 86400;
    private static final int HOUR_SECONDS = 3600;
    private static final int MINUTE_SECONDS = 60;

    private static final int LEAST_CURRENT = 60;
    private static final int TURN_SECONDS = 900;
    private static final int WATTS_OF_A_TENTH = 23;
    private static final int RESEND_SECONDS = 20;

    private static final int QUEUE_ROOM = 24;
    private static final int MOST_BEFORE_START = 20;
    private static final int FULL_FOR_READINGS = 22;

    private static final int START = 0;
    private static final int READING = 1;
    private static final int STOP = 2;

    private static final int NOTHING = 0;
    private static final int CALL = 1;
    private static final int ANSWER = 2;

    private static final int KEPT_BILLS = 128;
    private static final int BILL_FIELDS = 5;
    private static final int ABOUT_FIELDS = 6;
    private static final int SUM_OF_A_CENT = 10000;

    private final Site[] sites = new Site[SITES];
    private final Office office = new Office();
    private int now = 0;

    public OutletOffice() {
        for (int s = 0; s < SITES; s++) {
            sites[s] = new Site();
        }
    }

    public void limit(int site, int tenths) throws IndexOutOfBoundsException, IllegalArgumentException {
        checkIndex(site, SITES);
        checkNumber(tenths, 0, MOST_LIMIT);
        sites[site].limit = tenths;
    }

    public void band(int band, int minute, int price) throws IndexOutOfBoundsException, IllegalArgumentException {
        checkIndex(band, BANDS);
        checkNumber(minute, 0, DAY_MINUTES - 1);
        checkNumber(price, 0, MOST_PRICE);
        office.tariff.setBand(band, minute, price);
    }

    public void fees(int start, int idle) throws IllegalArgumentException {
        checkNumber(start, 0, MOST_FEE);
        checkNumber(idle, 0, MOST_FEE);
        office.tariff.startFee = start;
        office.tariff.idleFee = idle;
    }

    public void card(int card, int status, int group) throws IndexOutOfBoundsException, IllegalArgumentException {
        checkIndex(card, CARDS);
        checkNumber(status, 0, 1);
        checkNumber(group, 0, GROUPS - 1);
        office.cards.setCard(card, status, group);
    }

    public boolean copy(int point) throws IndexOutOfBoundsException {
        Point p = pointAt(point);
        if (!p.isReachable()) {
            return false;
        }
        p.cards.takeOver(office.cards);
        return true;
    }

    public boolean car(int point, int wants, int weight, int hours)
            throws IndexOutOfBoundsException, IllegalArgumentException {
        Point p = pointAt(point);
        checkNumber(wants, 0, MOST_CURRENT);
        checkNumber(weight, 1, MOST_WEIGHT);
        checkNumber(hours, 1, MOST_HOURS);
        if (p.car.here) {
            return false;
        }
        p.car.come(wants, weight, hours * HOUR_SECONDS);
        return true;
    }

    public boolean want(int point, int wants) throws IndexOutOfBoundsException, IllegalArgumentException {
        Point p = pointAt(point);
        checkNumber(wants, 0, MOST_CURRENT);
        if (!p.car.here || p.car.full) {
            return false;
        }
        p.car.wants = wants;
        return true;
    }

    public boolean leave(int point) throws IndexOutOfBoundsException {
        Point p = pointAt(point);
        if (!p.car.here) {
            return false;
        }
        if (p.runs()) {
            p.end(now, p.car.idleSeconds(now));
        }
        p.car.go();
        return true;
    }

    public int show(int point, int card) throws IndexOutOfBoundsException {
        Point p = pointAt(point);
        checkIndex(card, CARDS);
        CardList list = p.line ? office.cards : p.cards;
        if (p.mayBegin() && list.isGood(card)) {
            p.begin(card, now);
            return 1;
        }
        if (p.runs() && list.areOfOneHolder(card, p.sessionCard)) {
            p.end(now, p.car.idleSeconds(now));
            return 2;
        }
        return 0;
    }

    public void line(int point, boolean on) throws IndexOutOfBoundsException {
        pointAt(point).setLine(on);
    }

    public void power(int point, boolean on) throws IndexOutOfBoundsException {
        pointAt(point).setPower(on, now);
    }

    public int carry(int point) throws IndexOutOfBoundsException {
        Point p = pointAt(point);
        int what = p.underWay;
        if (what == CALL) {
            office.takeIn(point, p.queue.firstNumber(), p.queue.first());
            p.underWay = ANSWER;
        } else if (what == ANSWER) {
            p.queue.removeFirst();
            p.underWay = NOTHING;
        }
        return what;
    }

    public boolean lose(int point) throws IndexOutOfBoundsException {
        Point p = pointAt(point);
        boolean was = p.underWay != NOTHING;
        p.underWay = NOTHING;
        return was;
    }

    public int pass(int seconds) throws IllegalArgumentException {
        checkNumber(seconds, 0, DAY_SECONDS);
        checkNumber(now + seconds, 0, MOST_TIME);
        int end = now + seconds;
        // A stretch is a second at least, so there are no more of them than seconds.
        for (int stretches = 0; stretches < seconds && now < end; stretches++) {
            goOn(evenSeconds(end - now));
        }
        return now;
    }

    public int time() {
        return now;
    }

    public int current(int point) throws IndexOutOfBoundsException {
        Point p = pointAt(point);
        sites[point % SITES].share(now);
        return p.takes;
    }

    public int sum(int site) throws IndexOutOfBoundsException {
        checkIndex(site, SITES);
        sites[site].share(now);
        int all = 0;
        for (Point p : sites[site].points) {
            all += p.takes;
        }
        return all;
    }

    public long meter(int point) throws IndexOutOfBoundsException {
        return pointAt(point).wattSeconds;
    }

    public int about(int point, int what) throws IndexOutOfBoundsException, IllegalArgumentException {
        Point p = pointAt(point);
        checkNumber(what, 0, ABOUT_FIELDS - 1);
        switch (what) {
            case 0:
                return p.queue.size;
            case 1:
                return p.underWay;
            case 2:
                return p.session;
            case 3:
                return p.sessionCard;
            case 4:
                return p.car.presence();
            default:
                return p.queue.firstNumber();
        }
    }

    public long open(int point) throws IndexOutOfBoundsException {
        checkIndex(point, POINTS);
        Bill bill = office.openBills[point];
        return bill.isOpen ? bill.sum : -1;
    }

    public int bills() {
        return office.closedCount;
    }

    public int bill(int i, int what) throws IndexOutOfBoundsException, IllegalArgumentException {
        checkIndex(i, Math.min(office.closedCount, KEPT_BILLS));
        checkNumber(what, 0, BILL_FIELDS - 1);
        return office.closedRows[i * BILL_FIELDS + what];
    }

    public long total(int card) throws IndexOutOfBoundsException {
        checkIndex(card, CARDS);
        return office.centsOfCards[card];
    }

    private Point pointAt(int point) {
        checkIndex(point, POINTS);
        return sites[point % SITES].points[point / SITES];
    }

    private static void checkIndex(int index, int count) {
        if (index < 0 || index >= count) {
            throw new IndexOutOfBoundsException("there is no such one");
        }
    }

    private static void checkNumber(int number, int least, int most) {
        if (number < least || number > most) {
            throw new IllegalArgumentException("the number is out of its range");
        }
    }

    /**
     * How many seconds may be taken in one step: only at the end of the last of them does anything
     * happen but meters growing evenly. A day second by second would cost too much.
     */
    private int evenSeconds(int most) {
        int seconds = most;
        for (Site site : sites) {
            site.share(now);
            for (Point p : site.points) {
                seconds = Math.min(seconds, p.evenSeconds(now, most));
            }
        }
        return seconds;
    }

    private void goOn(int seconds) {
        now += seconds;
        for (Site site : sites) {
            for (Point p : site.points) {
                p.charge(seconds, now);
                p.read(now);
                p.send(now);
            }
        }
    }

    /** Three points that share a limit. */
    private static final class Site {
        final Point[] points = new Point[PLACES];
        int limit = 480;

        Site() {
            for (int k = 0; k < PLACES; k++) {
                points[k] = new Point();
            }
        }

        /** Works out what each point takes, as all is now. */
        void share(int time) {
            int safe = safeCurrent();
            int left = limit;
            for (Point p : points) {
                p.takes = 0;
                if (!p.line) {
                    left -= safe;
                    p.takes = p.isActive() ? Math.min(safe, p.car.wants) : 0;
                }
            }
            choose(left / LEAST_CURRENT, time / TURN_SECONDS % PLACES);
            int level = greatestLevel(left);
            for (Point p : points) {
                if (p.chosen) {
                    p.takes = p.takesAt(level);
                }
            }
        }

        private int safeCurrent() {
            int third = limit / 3;
            return third < LEAST_CURRENT ? 0 : third;
        }

        private void choose(int room, int firstPlace) {
            int free = room;
            for (int k = 0; k < PLACES; k++) {
                Point p = points[(firstPlace + k) % PLACES];
                p.chosen = free > 0 && p.line && p.isActive();
                if (p.chosen) {
                    free--;
                }
            }
        }

        /** What is taken never falls as the level grows, so halving steps find the greatest one. */
        private int greatestLevel(int left) {
            int level = 0;
            for (int step = 256; step > 0; step /= 2) {
                int tried = level + step;
                if (tried <= MOST_CURRENT && takenAt(tried) <= left) {
                    level = tried;
                }
            }
            return level;
        }

        private int takenAt(int level) {
            int taken = 0;
            for (Point p : points) {
                if (p.chosen) {
                    taken += p.takesAt(level);
                }
            }
            return taken;
        }
    }

    /** A charging point with its car, its session, and what it has to tell. */
    private static final class Point {
        final Car car = new Car();
        final Queue queue = new Queue();
        final CardList cards = new CardList();
        boolean power = true;
        boolean line = true;
        long wattSeconds = 0;
        int session = 0;
        int sessionCard = -1;
        int lastSession = 0;
        int underWay = NOTHING;
        // These two hold only what Site.share worked out last.
        boolean chosen = false;
        int takes = 0;

        boolean isReachable() {
            return power && line;
        }

        boolean runs() {
            return session != 0 && power;
        }

        boolean isActive() {
            return runs() && car.wants >= LEAST_CURRENT;
        }

        int takesAt(int level) {
            return Math.min(car.wants, Math.max(LEAST_CURRENT, level * car.weight));
        }

        boolean mayBegin() {
            return power && car.here && session == 0 && queue.size <= MOST_BEFORE_START;
        }

        void begin(int card, int time) {
            lastSession++;
            session = lastSession;
            sessionCard = card;
            tell(START, time, 0);
        }

        void end(int time, int idle) {
            tell(STOP, time, idle);
            session = 0;
            sessionCard = -1;
        }

        private void tell(int kind, int time, int idle) {
            int wattHours = (int) (wattSeconds / HOUR_SECONDS);
            queue.put(kind, session, sessionCard, time, wattHours, idle);
        }

        void setLine(boolean on) {
            line = on;
            dropIfUnreachable();
        }

        void setPower(boolean on, int time) {
            boolean comes = on && !power;
            power = on;
            dropIfUnreachable();
            if (comes && session != 0) {
                end(time, 0);
            }
        }

        private void dropIfUnreachable() {
            if (!isReachable()) {
                underWay = NOTHING;
            }
        }

        /** How long nothing happens here but even growth; takes must be up to date. */
        int evenSeconds(int time, int most) {
            int seconds = most;
            if (runs()) {
                // A reading falls on a turn of the site too; with no room for readings the turns remain.
                int beat = hasRoomForReading() ? MINUTE_SECONDS : TURN_SECONDS;
                seconds = Math.min(seconds, beat - time % beat);
                seconds = Math.min(seconds, car.secondsToFull(takes * WATTS_OF_A_TENTH, most));
            }
            if (waitsToSend()) {
                seconds = Math.min(seconds, queue.firstDue(time) - time);
            }
            return Math.max(1, seconds);
        }

        void charge(int seconds, int until) {
            if (runs()) {
                int energy = WATTS_OF_A_TENTH * takes * seconds;
                wattSeconds += energy;
                car.eat(energy, until);
            }
        }

        void read(int time) {
            if (time % MINUTE_SECONDS == 0 && runs() && hasRoomForReading()) {
                tell(READING, time, 0);
            }
        }

        void send(int time) {
            if (waitsToSend() && queue.firstDue(time) <= time) {
                queue.sentAt = time;
                underWay = CALL;
            }
        }

        private boolean hasRoomForReading() {
            return queue.size < FULL_FOR_READINGS;
        }

        private boolean waitsToSend() {
            return isReachable() && queue.size > 0 && underWay == NOTHING;
        }
    }

    /** The car of a point; one row, used again for each car that comes. */
    private static final class Car {
        boolean here = false;
        boolean full = false;
        int wants = 0;
        int weight = 1;
        int hunger = 0;
        int fullSince = 0;

        void come(int itsWants, int itsWeight, int itsHunger) {
            here = true;
            full = false;
            wants = itsWants;
            weight = itsWeight;
            hunger = itsHunger;
        }

        void go() {
            here = false;
            full = false;
            wants = 0;
        }

        int presence() {
            if (!here) {
                return 0;
            }
            return full ? 2 : 1;
        }

        int idleSeconds(int time) {
            return full ? time - fullSince : 0;
        }

        int secondsToFull(int watts, int most) {
            if (full || watts <= 0) {
                return most;
            }
            return (hunger + watts - 1) / watts;
        }

        void eat(int energy, int until) {
            hunger -= energy;
            if (!full && hunger <= 0) {
                full = true;
                fullSince = until;
                wants = 0;
            }
        }
    }

    /** What a point has to tell, in order; the rows are used again in a ring. */
    private static final class Queue {
        private static final int NOT_SENT = -1;

        private final Message[] rows = new Message[QUEUE_ROOM];
        private int head = 0;
        private int nextNumber = 1;
        int size = 0;
        int sentAt = NOT_SENT;

        Queue() {
            for (int k = 0; k < QUEUE_ROOM; k++) {
                rows[k] = new Message();
            }
        }

        void put(int kind, int session, int card, int time, int wattHours, int idle) {
            if (size < QUEUE_ROOM) {
                rows[(head + size) % QUEUE_ROOM].fill(kind, session, card, time, wattHours, idle);
                size++;
                nextNumber++;
            }
        }

        Message first() {
            return rows[head];
        }

        int firstNumber() {
            return size == 0 ? 0 : nextNumber - size;
        }

        /** When the first message may be sent at the earliest. */
        int firstDue(int time) {
            return sentAt == NOT_SENT ? time : sentAt + RESEND_SECONDS;
        }

        void removeFirst() {
            if (size > 0) {
                head = (head + 1) % QUEUE_ROOM;
                size--;
                sentAt = NOT_SENT;
            }
        }
    }

    /** A row of a queue. */
    private static final class Message {
        int kind = START;
        int session = 0;
        int card = 0;
        int time = 0;
        int wattHours = 0;
        int idle = 0;

        void fill(int itsKind, int itsSession, int itsCard, int itsTime, int itsWattHours, int itsIdle) {
            kind = itsKind;
            session = itsSession;
            card = itsCard;
            time = itsTime;
            wattHours = itsWattHours;
            idle = itsIdle;
        }
    }

    /** Status and group of every card: the office's list, or a point's copy of it. */
    private static final class CardList {
        private final int[] status = new int[CARDS];
        private final int[] group = new int[CARDS];

        void setCard(int card, int itsStatus, int itsGroup) {
            status[card] = itsStatus;
            group[card] = itsGroup;
        }

        void takeOver(CardList other) {
            System.arraycopy(other.status, 0, status, 0, CARDS);
            System.arraycopy(other.group, 0, group, 0, CARDS);
        }

        boolean isGood(int card) {
            return status[card] == 1;
        }

        boolean areOfOneHolder(int card, int other) {
            return card == other || (group[card] != 0 && group[card] == group[other]);
        }
    }

    /** Prices by the minute of the day, and fees. */
    private static final class Tariff {
        private static final int NOT_SET = -1;

        private final int[] minutes = new int[BANDS];
        private final int[] prices = new int[BANDS];
        int startFee = 0;
        int idleFee = 0;

        Tariff() {
            for (int b = 0; b < BANDS; b++) {
                minutes[b] = NOT_SET;
            }
        }

        void setBand(int band, int minute, int price) {
            minutes[band] = minute;
            prices[band] = price;
        }

        int priceAt(int time) {
            int band = latestBand(time / MINUTE_SECONDS % DAY_MINUTES);
            if (band == NOT_SET) {
                // Before the day's first band the last one of the day before still holds.
                band = latestBand(DAY_MINUTES - 1);
            }
            return band == NOT_SET ? 0 : prices[band];
        }

        private int latestBand(int mostMinute) {
            int best = NOT_SET;
            int bestMinute = NOT_SET;
            for (int b = 0; b < BANDS; b++) {
                if (minutes[b] <= mostMinute && minutes[b] > bestMinute) {
                    best = b;
                    bestMinute = minutes[b];
                }
            }
            return best;
        }
    }

    /** The bill of a point's session that the office has open, if it has one. */
    private static final class Bill {
        boolean isOpen = false;
        int session = 0;
        int card = 0;
        long sum = 0;
        int firstWattHours = 0;
        int wattHours = 0;
        int time = 0;

        void begin(Message start, int startFee) {
            isOpen = true;
            session = start.session;
            card = start.card;
            sum = startFee;
            firstWattHours = start.wattHours;
            wattHours = start.wattHours;
            time = start.time;
        }

        void grow(Message message, int price) {
            sum += (long) (message.wattHours - wattHours) * price;
            wattHours = message.wattHours;
            time = message.time;
        }

        int cents() {
            return (int) ((sum + SUM_OF_A_CENT / 2) / SUM_OF_A_CENT);
        }
    }

    /** Takes messages in, each once, and makes bills of them. */
    private static final class Office {
        final CardList cards = new CardList();
        final Tariff tariff = new Tariff();
        final Bill[] openBills = new Bill[POINTS];
        final int[] closedRows = new int[KEPT_BILLS * BILL_FIELDS];
        final long[] centsOfCards = new long[CARDS];
        int closedCount = 0;
        private final int[] latestNumbers = new int[POINTS];

        Office() {
            for (int p = 0; p < POINTS; p++) {
                openBills[p] = new Bill();
            }
        }

        void takeIn(int point, int number, Message message) {
            if (number != latestNumbers[point] + 1) {
                return;
            }
            latestNumbers[point] = number;
            Bill bill = openBills[point];
            if (message.kind == START) {
                bill.begin(message, tariff.startFee);
                return;
            }
            bill.grow(message, tariff.priceAt(bill.time));
            if (message.kind == STOP) {
                bill.sum += (long) (message.idle / MINUTE_SECONDS) * tariff.idleFee;
                close(point, bill);
            }
        }

        private void close(int point, Bill bill) {
            bill.isOpen = false;
            centsOfCards[bill.card] += bill.cents();
            if (closedCount < KEPT_BILLS) {
                int row = closedCount * BILL_FIELDS;
                closedRows[row] = point;
                closedRows[row + 1] = bill.session;
                closedRows[row + 2] = bill.card;
                closedRows[row + 3] = bill.cents();
                closedRows[row + 4] = bill.wattHours - bill.firstWattHours;
            }
            closedCount++;
        }
    }
}
