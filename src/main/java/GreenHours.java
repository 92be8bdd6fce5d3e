import java.util.ArrayList;

/**
 * A house of green hours: work that can wait is laid into the HOURS and PLACES where power is
 * cleanest. Words in capitals are the terms of the document.
 */
public final class GreenHours {
    public static final int NONE = -1;

    /** What would() answers for a LAYING that the JOB's own HOURS rule out. */
    private static final int OUT_OF_TIME = -2;
    /** What worst() answers while no JOB is DONE. */
    private static final int NOTHING_DONE = -2;

    private static final int PLACES = 4;
    private static final int JOBS = 40;
    private static final int OWNERS = 6;
    private static final int HOURS = 300;
    private static final int MOST_ROOM = 9;
    private static final int MOST_GREEN = 999;
    private static final int FIRST_GREEN = 500;
    private static final int MOST_FARE = 99;
    private static final int FIRST_FARE = 1;
    private static final int MOST_LENGTH = 12;
    private static final int MOST_DATA = 99;
    private static final int MOST_PATIENCE = 500;
    private static final int FIRST_PATIENCE = 24;
    private static final int MOST_PASSED = 48;
    private static final int MOST_TOGETHER = 3;

    private static final int FINE = 0;
    private static final int NO_SUCH = 1;
    private static final int BAD_NUMBER = 2;
    private static final int NO_ROOM = 3;
    private static final int NOT_SO = 4;

    private static final int WAITS = 0;
    private static final int BEGUN = 1;
    private static final int DONE = 2;
    private static final int LOST = 3;

    private final Sites sites;
    private final ArrayList<Work> works;
    private final int[] delays;
    /** What the latest lay() made. */
    private final Plan shown;
    /** What the latest HOUR made; kept apart because laid() and cost() must not see it. */
    private final Plan hourly;
    private final Prices prices;
    private final Trio trio;
    /** The JOBS that WAIT, in the order in which they are laid. */
    private final int[] order;
    private int patienceNow;
    private int now;
    private int troubleNow;

    public GreenHours() {
        sites = new Sites();
        works = new ArrayList<>();
        delays = new int[OWNERS];
        shown = new Plan();
        hourly = new Plan();
        prices = new Prices();
        trio = new Trio();
        order = new int[JOBS];
        patienceNow = FIRST_PATIENCE;
        now = 0;
        troubleNow = FINE;
    }

    // ---- what there is

    public int place(int room) {
        troubleNow = troubleOfPlace(room);
        return troubleNow == FINE ? sites.add(room) : NONE;
    }

    private int troubleOfPlace(int room) {
        if (!within(room, 1, MOST_ROOM)) {
            return BAD_NUMBER;
        }
        return sites.known < PLACES ? FINE : NO_ROOM;
    }

    public boolean fare(int one, int other, int v) {
        troubleNow = troubleOfFare(one, other, v);
        if (troubleNow != FINE) {
            return false;
        }
        sites.fares[one][other] = v;
        sites.fares[other][one] = v;
        return true;
    }

    private int troubleOfFare(int one, int other, int v) {
        if (!sites.has(one) || !sites.has(other) || one == other) {
            return NO_SUCH;
        }
        return within(v, 0, MOST_FARE) ? FINE : BAD_NUMBER;
    }

    public boolean green(int place, int from, int to, int v) {
        troubleNow = troubleOfGreen(place, from, to, v);
        if (troubleNow != FINE) {
            return false;
        }
        for (int h = from; h <= to; h++) {
            sites.greens[place][h] = v;
        }
        return true;
    }

    private int troubleOfGreen(int place, int from, int to, int v) {
        if (!sites.has(place)) {
            return NO_SUCH;
        }
        boolean hours = within(from, now, HOURS - 1) && within(to, from, HOURS - 1);
        return hours && within(v, 0, MOST_GREEN) ? FINE : BAD_NUMBER;
    }

    public int told(int place, int hour) {
        if (!sites.has(place) || !within(hour, 0, HOURS - 1)) {
            return NONE;
        }
        return sites.greens[place][hour];
    }

    public boolean patience(int hours) {
        troubleNow = within(hours, 1, MOST_PATIENCE) ? FINE : BAD_NUMBER;
        if (troubleNow != FINE) {
            return false;
        }
        patienceNow = hours;
        return true;
    }

    public int job(int owner, int home, int length, int from, int due, int data) {
        troubleNow = troubleOfJob(owner, home, length, from, due, data);
        if (troubleNow != FINE) {
            return NONE;
        }
        works.add(new Work(owner, home, length, from, due, data));
        return works.size() - 1;
    }

    private int troubleOfJob(int owner, int home, int length, int from, int due, int data) {
        if (!sites.has(home)) {
            return NO_SUCH;
        }
        if (!within(owner, 0, OWNERS - 1) || !within(length, 1, MOST_LENGTH)
                || !within(data, 0, MOST_DATA) || !within(due, 0, HOURS)
                || !within(from, now, due - length)) {
            return BAD_NUMBER;
        }
        return works.size() < JOBS ? FINE : NO_ROOM;
    }

    public boolean drop(int job) {
        troubleNow = troubleOfDrop(job);
        if (troubleNow != FINE) {
            return false;
        }
        works.get(job).state = LOST;
        return true;
    }

    private int troubleOfDrop(int job) {
        if (!isJob(job)) {
            return NO_SUCH;
        }
        return works.get(job).state == WAITS ? FINE : NOT_SO;
    }

    public int about(int job, int what) {
        return isJob(job) ? works.get(job).tell(what) : NONE;
    }

    // ---- laid

    public int lay() {
        makePlan(shown);
        return shown.size;
    }

    public int laid(int job, int what) {
        return within(job, 0, JOBS - 1) ? shown.tell(job, what) : NONE;
    }

    public int cost() {
        return shown.total;
    }

    public int best() {
        int waiting = countOf(WAITS);
        int least = waiting <= MOST_TOGETHER ? leastTogether() : NONE;
        troubleNow = least == NONE ? NOT_SO : FINE;
        return least;
    }

    public int free(int place, int hour) {
        if (!sites.has(place) || !within(hour, now, HOURS - 1)) {
            return NONE;
        }
        return sites.rooms[place][hour];
    }

    // ---- hours

    public int pass(int hours) {
        troubleNow = troubleOfPass(hours);
        if (troubleNow != FINE) {
            return NONE;
        }
        int done = 0;
        for (int i = 0; i < hours; i++) {
            done += passHour();
        }
        return done;
    }

    private int troubleOfPass(int hours) {
        if (!within(hours, 1, MOST_PASSED)) {
            return BAD_NUMBER;
        }
        return now + hours < HOURS ? FINE : NO_ROOM;
    }

    public int delay(int owner) {
        return within(owner, 0, OWNERS - 1) ? delays[owner] : NONE;
    }

    public int behind(int owner) {
        if (!within(owner, 0, OWNERS - 1)) {
            return NONE;
        }
        return isBehind(owner) ? 1 : 0;
    }

    // ---- what it came to

    public int paid() {
        int sum = 0;
        for (int i = 0; i < works.size(); i++) {
            sum += works.get(i).paid;
        }
        return sum;
    }

    public int atOnce() {
        int sum = 0;
        for (int i = 0; i < works.size(); i++) {
            Work work = works.get(i);
            if (work.state == DONE) {
                sum += sites.costOf(work, work.home, work.from);
            }
        }
        return sum;
    }

    public int saved() {
        return atOnce() - paidOfDone();
    }

    public int regret(int job) {
        if (!isJob(job) || works.get(job).state != DONE) {
            return NONE;
        }
        return regretOf(works.get(job));
    }

    public int worst() {
        int worst = NOTHING_DONE;
        int most = 0;
        for (int i = 0; i < works.size(); i++) {
            if (works.get(i).state != DONE) {
                continue;
            }
            int regret = regretOf(works.get(i));
            // A REGRET can be below 0 (a FARE may have risen since), so 0 is no floor for the first.
            if (worst == NOTHING_DONE || regret > most) {
                worst = i;
                most = regret;
            }
        }
        return worst;
    }

    public int would(int job, int place, int hour) {
        troubleNow = isJob(job) && sites.has(place) ? FINE : NO_SUCH;
        if (troubleNow != FINE) {
            return NONE;
        }
        Work work = works.get(job);
        if (!within(hour, work.from, work.due - work.length)) {
            return OUT_OF_TIME;
        }
        return sites.costOf(work, place, hour);
    }

    public int count(int what) {
        switch (what) {
            case 0: return sites.known;
            case 1: return works.size();
            case 2: return countOf(WAITS);
            case 3: return countOf(BEGUN);
            case 4: return countOf(DONE);
            case 5: return countOf(LOST);
            case 6: return now;
            default: return NONE;
        }
    }

    public int trouble() {
        return troubleNow;
    }

    // ---- how it is done

    private static boolean within(int v, int least, int most) {
        return v >= least && v <= most;
    }

    private boolean isJob(int job) {
        return job >= 0 && job < works.size();
    }

    private boolean isBehind(int owner) {
        return delays[owner] > patienceNow;
    }

    private int countOf(int state) {
        int n = 0;
        for (int i = 0; i < works.size(); i++) {
            if (works.get(i).state == state) {
                n++;
            }
        }
        return n;
    }

    private int paidOfDone() {
        int sum = 0;
        for (int i = 0; i < works.size(); i++) {
            if (works.get(i).state == DONE) {
                sum += works.get(i).paid;
            }
        }
        return sum;
    }

    private int regretOf(Work work) {
        prices.fill(sites, work, work.from, Math.min(work.due, now), true);
        prices.pickCheapest();
        return work.paid - prices.cost;
    }

    private void makePlan(Plan plan) {
        plan.clear();
        int waiting = orderWaiting();
        for (int i = 0; i < waiting; i++) {
            layOne(plan, order[i]);
        }
        // A LAYING holds its ROOM only against those laid behind it: nothing has begun yet.
        for (int i = 0; i < waiting; i++) {
            int job = order[i];
            if (plan.has(job)) {
                sites.giveBack(plan.places[job], plan.hours[job], works.get(job).length);
            }
        }
    }

    private void layOne(Plan plan, int job) {
        Work work = works.get(job);
        prices.fill(sites, work, Math.max(work.from, now), work.due, false);
        if (isBehind(work.owner)) {
            prices.pickSoonest();
        } else {
            prices.pickCheapest();
        }
        if (prices.cost == NONE) {
            return;
        }
        plan.put(job, prices.place, prices.hour, prices.cost);
        sites.take(prices.place, prices.hour, work.length);
    }

    /** Fills order; answers how many WAIT. */
    private int orderWaiting() {
        int n = 0;
        for (int job = 0; job < works.size(); job++) {
            if (works.get(job).state != WAITS) {
                continue;
            }
            int rank = rankOf(job);
            int at = n;
            // Only strictly later ones move up, so that the lesser number stays ahead.
            while (at > 0 && rankOf(order[at - 1]) > rank) {
                order[at] = order[at - 1];
                at--;
            }
            order[at] = job;
            n++;
        }
        return n;
    }

    /** Those BEHIND go ahead of every DUE of the others. */
    private int rankOf(int job) {
        Work work = works.get(job);
        return isBehind(work.owner) ? work.due : work.due + HOURS + 1;
    }

    private int leastTogether() {
        trio.clear();
        for (int i = 0; i < works.size(); i++) {
            Work work = works.get(i);
            if (work.state == WAITS) {
                prices.fill(sites, work, Math.max(work.from, now), work.due, false);
                trio.add(work, prices);
            }
        }
        return trio.least(sites);
    }

    /** One HOUR goes; answers how many JOBS were DONE in it. */
    private int passHour() {
        makePlan(hourly);
        beginLaid();
        loseLate();
        int done = 0;
        for (int i = 0; i < works.size(); i++) {
            if (works.get(i).state == BEGUN) {
                done += doHour(works.get(i));
            }
        }
        now++;
        return done;
    }

    private void beginLaid() {
        for (int i = 0; i < works.size(); i++) {
            if (hourly.has(i) && hourly.hours[i] == now) {
                Work work = works.get(i);
                work.state = BEGUN;
                work.place = hourly.places[i];
                work.hour = now;
                delays[work.owner] += now - work.from;
                sites.take(work.place, work.hour, work.length);
            }
        }
    }

    private void loseLate() {
        for (int i = 0; i < works.size(); i++) {
            Work work = works.get(i);
            if (work.state == WAITS && now + 1 + work.length > work.due) {
                work.state = LOST;
            }
        }
    }

    /** A BEGUN JOB does the HOUR; answers 1 if it is DONE with it, else 0. */
    private int doHour(Work work) {
        work.paid += sites.greens[work.place][now];
        if (work.hour == now) {
            work.paid += sites.carriage(work, work.place);
        }
        if (work.hour + work.length - 1 > now) {
            return 0;
        }
        work.state = DONE;
        return 1;
    }

    /** A JOB. */
    private static final class Work {
        final int owner;
        final int home;
        final int length;
        final int from;
        final int due;
        final int data;
        int state;
        int place;
        int hour;
        int paid;

        Work(int owner, int home, int length, int from, int due, int data) {
            this.owner = owner;
            this.home = home;
            this.length = length;
            this.from = from;
            this.due = due;
            this.data = data;
            this.state = WAITS;
            this.place = NONE;
            this.hour = NONE;
            this.paid = 0;
        }

        int tell(int what) {
            switch (what) {
                case 0: return state;
                case 1: return place;
                case 2: return hour;
                case 3: return paid;
                case 4: return owner;
                case 5: return home;
                case 6: return length;
                case 7: return from;
                case 8: return due;
                case 9: return data;
                default: return NONE;
            }
        }
    }

    /** The PLACES, their GREEN and FARES, and what ROOM is left in them. */
    private static final class Sites {
        int known;
        final int[][] fares;
        /** FORETOLD from NOW on, TRUE for past HOURS: a past one can't be told any more. */
        final int[][] greens;
        /** ROOM beside those BEGUN and, while a plan is made, those laid. */
        final int[][] rooms;

        Sites() {
            known = 0;
            fares = new int[PLACES][PLACES];
            greens = new int[PLACES][HOURS];
            rooms = new int[PLACES][HOURS];
        }

        boolean has(int place) {
            return place >= 0 && place < known;
        }

        int add(int room) {
            int place = known;
            known++;
            for (int h = 0; h < HOURS; h++) {
                greens[place][h] = FIRST_GREEN;
                rooms[place][h] = room;
            }
            for (int other = 0; other < place; other++) {
                fares[place][other] = FIRST_FARE;
                fares[other][place] = FIRST_FARE;
            }
            return place;
        }

        /** What the DATA of a JOB costs; a PLACE's FARE to itself stays 0, so nothing at HOME. */
        int carriage(Work work, int place) {
            return work.data * fares[work.home][place];
        }

        int costOf(Work work, int place, int hour) {
            int sum = carriage(work, place);
            for (int h = hour; h < hour + work.length; h++) {
                sum += greens[place][h];
            }
            return sum;
        }

        boolean fits(int place, int hour, int length) {
            for (int h = hour; h < hour + length; h++) {
                if (rooms[place][h] <= 0) {
                    return false;
                }
            }
            return true;
        }

        void take(int place, int hour, int length) {
            for (int h = hour; h < hour + length; h++) {
                rooms[place][h]--;
            }
        }

        void giveBack(int place, int hour, int length) {
            for (int h = hour; h < hour + length; h++) {
                rooms[place][h]++;
            }
        }
    }

    /** LAYINGS by JOB. */
    private static final class Plan {
        final int[] places;
        final int[] hours;
        final int[] costs;
        int size;
        /** COST of all LAYINGS; NONE until the plan is made for the first time. */
        int total;

        Plan() {
            places = new int[JOBS];
            hours = new int[JOBS];
            costs = new int[JOBS];
            for (int i = 0; i < JOBS; i++) {
                places[i] = NONE;
            }
            size = 0;
            total = NONE;
        }

        void clear() {
            for (int i = 0; i < JOBS; i++) {
                places[i] = NONE;
            }
            size = 0;
            total = 0;
        }

        void put(int job, int place, int hour, int price) {
            places[job] = place;
            hours[job] = hour;
            costs[job] = price;
            size++;
            total += price;
        }

        boolean has(int job) {
            return places[job] != NONE;
        }

        int tell(int job, int what) {
            if (!has(job)) {
                return NONE;
            }
            switch (what) {
                case 0: return places[job];
                case 1: return hours[job];
                case 2: return costs[job];
                default: return NONE;
            }
        }
    }

    /** What each LAYING of one JOB costs, by PLACE and first HOUR, and the one that was picked. */
    private static final class Prices {
        /** NONE where there is no LAYING. */
        final int[][] table;
        int known;
        int first;
        int last;
        int place;
        int hour;
        int cost;

        Prices() {
            table = new int[PLACES][HOURS];
            known = 0;
            first = 0;
            last = NONE;
            place = NONE;
            hour = NONE;
            cost = NONE;
        }

        /** LAYINGS that lie within the HOURS from start up to end, end itself left out. */
        void fill(Sites sites, Work work, int start, int end, boolean anyRoom) {
            known = sites.known;
            first = start;
            last = end - work.length;
            for (int p = 0; p < known; p++) {
                fillRow(sites, work, p, end, anyRoom);
            }
        }

        /** A window slides over the HOURS: one is added, one taken away. */
        private void fillRow(Sites sites, Work work, int p, int end, boolean anyRoom) {
            int[] green = sites.greens[p];
            int[] room = sites.rooms[p];
            int[] row = table[p];
            int length = work.length;
            int sum = sites.carriage(work, p);
            int open = 0;
            for (int h = first; h < end; h++) {
                int begin = h - length + 1;
                sum += green[h];
                if (begin > first) {
                    sum -= green[begin - 1];
                }
                open = anyRoom || room[h] > 0 ? open + 1 : 0;
                if (begin >= first) {
                    row[begin] = open >= length ? sum : NONE;
                }
            }
        }

        /** Of as cheap ones the lesser HOUR, then the lesser PLACE: the one that is met first. */
        void pickCheapest() {
            cost = NONE;
            for (int h = first; h <= last; h++) {
                pickAt(h);
            }
        }

        /** The least HOUR that has any; there the cheapest, then the lesser PLACE. */
        void pickSoonest() {
            cost = NONE;
            for (int h = first; h <= last && cost == NONE; h++) {
                pickAt(h);
            }
        }

        private void pickAt(int h) {
            for (int p = 0; p < known; p++) {
                int price = table[p][h];
                if (price != NONE && (cost == NONE || price < cost)) {
                    place = p;
                    hour = h;
                    cost = price;
                }
            }
        }
    }

    /** Up to three JOBS and the least COST of laying them together. */
    private static final class Trio {
        /**
         * So many of a JOB's cheapest LAYINGS are enough: another JOB stands in the way of at most
         * 12 + 12 - 1 of them, two of 46, so one of the 47 cheapest is open whatever the others do.
         */
        private static final int KEPT = 2 * (2 * MOST_LENGTH - 1) + 1;

        private final int[][] places;
        private final int[][] hours;
        /** Rising in each row. */
        private final int[][] costs;
        private final int[] kept;
        private final int[] lengths;
        private int size;

        Trio() {
            places = new int[MOST_TOGETHER][KEPT];
            hours = new int[MOST_TOGETHER][KEPT];
            costs = new int[MOST_TOGETHER][KEPT];
            kept = new int[MOST_TOGETHER];
            lengths = new int[MOST_TOGETHER];
            size = 0;
        }

        void clear() {
            size = 0;
        }

        void add(Work work, Prices prices) {
            if (size >= MOST_TOGETHER) {
                return;
            }
            int row = size;
            size++;
            kept[row] = 0;
            lengths[row] = work.length;
            for (int p = 0; p < prices.known; p++) {
                for (int h = prices.first; h <= prices.last; h++) {
                    if (prices.table[p][h] != NONE) {
                        keep(row, p, h, prices.table[p][h]);
                    }
                }
            }
        }

        private void keep(int row, int place, int hour, int price) {
            int at = kept[row];
            if (at == KEPT) {
                if (price >= costs[row][KEPT - 1]) {
                    return;
                }
                at = KEPT - 1;
            } else {
                kept[row]++;
            }
            while (at > 0 && costs[row][at - 1] > price) {
                places[row][at] = places[row][at - 1];
                hours[row][at] = hours[row][at - 1];
                costs[row][at] = costs[row][at - 1];
                at--;
            }
            places[row][at] = place;
            hours[row][at] = hour;
            costs[row][at] = price;
        }

        /** NONE if they can't all be laid; 0 without any. */
        int least(Sites sites) {
            for (int row = 0; row < size; row++) {
                if (kept[row] == 0) {
                    return NONE;
                }
            }
            return search(this, sites, 0, 0, NONE);
        }

        /** The lesser of found and what can be reached by laying the rows from row on. */
        private static int search(Trio trio, Sites sites, int row, int sum, int found) {
            if (row >= trio.size) {
                // The row ahead has gone on only because sum is below found.
                return sum;
            }
            int least = found;
            int rest = trio.cheapestFrom(row + 1);
            for (int i = 0; i < trio.kept[row]; i++) {
                int spent = sum + trio.costs[row][i];
                if (least != NONE && spent + rest >= least) {
                    return least;
                }
                int place = trio.places[row][i];
                int hour = trio.hours[row][i];
                if (sites.fits(place, hour, trio.lengths[row])) {
                    sites.take(place, hour, trio.lengths[row]);
                    least = search(trio, sites, row + 1, spent, least);
                    sites.giveBack(place, hour, trio.lengths[row]);
                }
            }
            return least;
        }

        /** What the rows from row on come to at least. */
        private int cheapestFrom(int row) {
            int sum = 0;
            for (int i = row; i < size; i++) {
                sum += costs[i][0];
            }
            return sum;
        }
    }
}
