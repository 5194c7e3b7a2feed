import java.util.Arrays;

/** A copier in an office, with its jobs, trays, toner and bins, as the document tells it. */
public final class CopierJobs {
    public static final int BAD = -1, STATE = -2, FULL = -3, NONE = -9;
    public static final int NO = -1000000;

    private static final int TEXT_MOST = 120, FAULT_BASE = -10, NUMBER_MOST = 999;
    private static final int JOBS_MOST = 6, TRAYS = 3, BINS_MOST = 6;
    private static final int TRAY_MOST = 99, TONER_MOST = 999, BIN_MOST = 20;
    private static final int TRAY_FIRST = 20, TONER_FIRST = 200, BINS_FIRST = 4;
    private static final int TICK_MOST = 9999, TICKS_A_CALL = 20, IN_MOST = 400;
    private static final int KNOWN_MOST = 10, IMAGES = 2;
    private static final int SEEN_MOST = 6, SHEET_MOST = 80, PAGE_MOST = 9, DRAWN_MOST = 4;

    private static final int BLANK = 32;
    private static final int AT_END = 0, LETTERS = 1, NUMBER = 2, STOP = 3, WRONG = 4;

    private static final int[] TRAYS_LEAST = {0, 0, 0}, TRAYS_MOST = {99, 99, 99};
    private static final int[] TONER_TOLD_LEAST = {0}, TONER_TOLD_MOST = {999};
    private static final int[] BINS_TOLD_LEAST = {1}, BINS_TOLD_MOST = {6};
    private static final int[] JOB_LEAST = {1, 1, 0, 0, 0}, JOB_MOST = {9, 9, 1, 1, 2};

    private static final int JOB = 0, MEMO = 1, REPORT = 2, NOTICE = 3, LEDGER = 4, FLYER = 5;
    private static final int[] KIND_ABOVE = {NONE, JOB, JOB, MEMO, REPORT, JOB};
    private static final int[] KIND_TRACE = {1, 10, 100, 1000, 10000, 100000};

    private final Text text = new Text();
    private final Course course = new Course();
    private final Now trial = new Now();
    private final Seen seen = new Seen();
    private final Course[] images = new Course[IMAGES];
    private final boolean[] kept = new boolean[IMAGES];
    private Plan plan = new Plan();
    private Plan nextPlan = new Plan();
    private long traced;

    public CopierJobs() {
        for (int i = 0; i < images.length; i++) {
            images[i] = new Course();
        }
        course.begin(plan);
    }

    // ---- the office

    public int type(int c) {
        if (c < 0 || c > 255) {
            return BAD;
        }
        return text.isFull() ? FULL : text.add(c);
    }

    public int clear() {
        return text.wipe();
    }

    public int office() {
        int items = nextPlan.readFrom(text);
        if (items < 0) {
            return items;
        }
        Plan old = plan;
        plan = nextPlan;
        nextPlan = old;
        text.wipe();
        course.begin(plan);
        seen.forgetAll();
        for (int i = 0; i < kept.length; i++) {
            kept[i] = false;
        }
        return items;
    }

    public int job(int j, int what) {
        Job job = plan.jobAt(j);
        if (job == null) {
            return BAD;
        }
        switch (what) {
            case 0: return job.pages;
            case 1: return job.copies;
            case 2: return job.both ? 1 : 0;
            case 3: return job.sorted ? 1 : 0;
            case 4: return job.tray;
            case 5: return job.all();
            case 6: return course.now.madeOf(j);
            case 7: return course.now.placeOf(j);
            case 8: return course.now.endOf(j);
            case 9: return endsIn(j);
            case 10: return course.now.leftOf(plan, j);
            default: return BAD;
        }
    }

    public int sheet(int j, int k, int what) {
        Job job = plan.jobAt(j);
        if (job == null || !job.hasSheet(k)) {
            return BAD;
        }
        switch (what) {
            case 0: return job.copyOf(k);
            case 1: return job.frontOf(k);
            case 2: return job.backOf(k);
            case 3: return plan.binOf(job, k);
            default: return BAD;
        }
    }

    public int where(int j, int page, int copy) {
        Job job = plan.jobAt(j);
        if (job == null || !job.hasPage(page) || copy < 0 || copy >= job.copies) {
            return BAD;
        }
        return job.sheetWith(page, copy);
    }

    public int tray(int t, int what) {
        if (t < 0 || t >= TRAYS) {
            return BAD;
        }
        switch (what) {
            case 0: return at(course.now.trays, t);
            case 1: return course.now.trayWants(plan, t);
            default: return BAD;
        }
    }

    public int bin(int b) {
        return plan.hasBin(b) ? at(course.now.bins, b) : BAD;
    }

    // ---- what is done

    public int ticks(int n) {
        if (n < 1 || n > TICKS_A_CALL) {
            return BAD;
        }
        if (course.now.tick + n > TICK_MOST) {
            return STATE;
        }
        course.remember();
        int came = 0;
        for (int i = 0; i < n; i++) {
            if (course.now.passTick(plan)) {
                came++;
            }
        }
        return came;
    }

    public int ahead(int j) {
        if (plan.jobAt(j) == null) {
            return BAD;
        }
        int place = course.now.placeOf(j);
        if (place == NONE || place == 0) {
            return STATE;
        }
        course.remember();
        int first = course.now.firstJob();
        course.now.comeToHead(j);
        return first;
    }

    public int breaks(int j) {
        if (plan.jobAt(j) == null) {
            return BAD;
        }
        if (course.now.placeOf(j) == NONE) {
            return STATE;
        }
        course.remember();
        course.now.leaveQueue(j);
        return course.now.queued;
    }

    public int fills(int t, int n) {
        if (t < 0 || t >= TRAYS || n < 1 || n > TRAY_MOST) {
            return BAD;
        }
        int had = at(course.now.trays, t);
        if (had >= TRAY_MOST) {
            return STATE;
        }
        course.remember();
        put(course.now.trays, t, Math.min(TRAY_MOST, had + n));
        return at(course.now.trays, t);
    }

    public int toner(int n) {
        if (n < 1 || n > TONER_MOST) {
            return BAD;
        }
        if (course.now.toner >= TONER_MOST) {
            return STATE;
        }
        course.remember();
        course.now.toner = Math.min(TONER_MOST, course.now.toner + n);
        return course.now.toner;
    }

    public int empties(int b) {
        if (!plan.hasBin(b)) {
            return BAD;
        }
        int had = at(course.now.bins, b);
        if (had == 0) {
            return STATE;
        }
        course.remember();
        put(course.now.bins, b, 0);
        return had;
    }

    public int undo() {
        if (course.knownCount == 0) {
            return STATE;
        }
        course.takeBack();
        return course.knownCount;
    }

    public int now(int what) {
        Now now = course.now;
        switch (what) {
            case 0: return now.tick;
            case 1: return now.toner;
            case 2: return now.firstJob();
            case 3: return now.whyStands(plan);
            case 4: return now.half ? 1 : 0;
            case 5: return now.queued;
            case 6: return now.sheetsInBins();
            case 7: return now.tonerWants(plan);
            default: return BAD;
        }
    }

    public int soon(int what) {
        if (what != 0 && what != 1) {
            return BAD;
        }
        int sum = 0, order = 0, behind = 0, picked = 0;
        for (int i = 0; i < course.now.queued; i++) {
            int j = shortestBut(picked);
            if (j == NONE) {
                break;
            }
            picked |= 1 << j;
            behind += course.now.leftOf(plan, j);
            sum += behind;
            order = order * 10 + j + 1;
        }
        return what == 0 ? sum : order;
    }

    public int odds(int j, int n, int page, int what) {
        Job job = plan.jobAt(j);
        if (job == null || n < 1 || n > DRAWN_MOST || !job.hasPage(page) || what < 0 || what > 1) {
            return BAD;
        }
        if (job.all() < n) {
            return STATE;
        }
        // Each copy has the page on just one of its sheets.
        int sets = choose(job.all(), n);
        int having = sets - choose(job.all() - job.copies, n);
        int shared = commonDivisor(having, sets);
        if (shared <= 0) {
            return 0;
        }
        return (what == 0 ? having : sets) / shared;
    }

    // ---- whose it was

    public int sees(int k, int page, int there) {
        if (k < 0 || k > SHEET_MOST || page < 1 || page > PAGE_MOST || there < 0 || there > 1) {
            return BAD;
        }
        return seen.size >= SEEN_MOST ? FULL : seen.add(k, page, there);
    }

    public int forget() {
        return seen.forgetAll();
    }

    public int whose() {
        return seen.fittingOf(plan);
    }

    public int look() {
        int bits = seen.fittingOf(plan);
        int all = Integer.bitCount(bits);
        int least = all;
        int best = NONE;
        for (int k = 0; k <= SHEET_MOST; k++) {
            seen.countFronts(plan, bits, k);
            for (int page = 1; page <= PAGE_MOST; page++) {
                int there = at(seen.withFront, page);
                int greater = Math.max(there, all - there);
                if (greater < least) {
                    least = greater;
                    best = 10 * k + page;
                }
            }
        }
        return best;
    }

    // ---- kinds, images

    public int mark(int kind, int j) {
        Job job = plan.jobAt(j);
        if (job == null || kind < 0 || kind >= KIND_ABOVE.length) {
            return NO;
        }
        return worthAs(kind, job, j, 0);
    }

    public int keep(int image) {
        Course to = imageAt(image);
        if (to == null || image < 0 || image >= kept.length) {
            return BAD;
        }
        to.copyFrom(course);
        kept[image] = true;
        return course.now.tick;
    }

    public int back(int image) {
        Course from = imageAt(image);
        if (from == null || image < 0 || image >= kept.length) {
            return BAD;
        }
        if (!kept[image]) {
            return STATE;
        }
        course.copyFrom(from);
        return course.now.tick;
    }

    public int count(int what) {
        switch (what) {
            case 0: return plan.bins;
            case 1: return plan.jobCount;
            case 2: return seen.size;
            case 3: return course.knownCount;
            case 4: return text.length;
            default: return BAD;
        }
    }

    public long trace() {
        return traced;
    }

    // ---- what these calls share

    private int endsIn(int j) {
        if (course.now.placeOf(j) == NONE) {
            return NONE;
        }
        trial.copyFrom(course.now);
        for (int n = 1; n <= IN_MOST; n++) {
            // A job that stands would stand for ever: nothing else is done.
            if (trial.whyStands(plan) != 0) {
                return NONE;
            }
            trial.passTick(plan);
            if (trial.placeOf(j) == NONE) {
                return n;
            }
        }
        return NONE;
    }

    /** The sum of ends is least with the shortest first; of equals the lower number comes first. */
    private int shortestBut(int picked) {
        int best = NONE;
        int least = 0;
        for (int j = 0; j < plan.jobCount; j++) {
            if (course.now.placeOf(j) == NONE || (picked >> j & 1) != 0) {
                continue;
            }
            int left = course.now.leftOf(plan, j);
            if (best == NONE || left < least) {
                best = j;
                least = left;
            }
        }
        return best;
    }

    private int worthAs(int kind, Job job, int j, int level) {
        if (level >= KIND_ABOVE.length || kind < 0 || kind >= KIND_ABOVE.length) {
            return 0;
        }
        traced += at(KIND_TRACE, kind);
        if (kind == JOB) {
            return job.pages;
        }
        int up = worthAs(KIND_ABOVE[kind], job, j, level + 1);
        switch (kind) {
            case MEMO: return up + job.copies;
            case REPORT: return up - course.now.madeOf(j);
            case NOTICE: return up * 2;
            case LEDGER: return up + j;
            case FLYER: return up + course.now.tick;
            default: return up;
        }
    }

    private Course imageAt(int image) {
        return image >= 0 && image < images.length ? images[image] : null;
    }

    private static int at(int[] row, int i) {
        return i >= 0 && i < row.length ? row[i] : 0;
    }

    private static void put(int[] row, int i, int value) {
        if (i >= 0 && i < row.length) {
            row[i] = value;
        }
    }

    private static void copyRow(int[] from, int[] to) {
        for (int i = 0; i < from.length && i < to.length; i++) {
            to[i] = from[i];
        }
    }

    private static int choose(int n, int k) {
        if (k < 0 || k > DRAWN_MOST || n < k) {
            return 0;
        }
        long ways = 1;
        for (int i = 1; i <= k; i++) {
            ways = ways * (n - k + i) / i;
        }
        return (int) ways;
    }

    private static int commonDivisor(int a, int b) {
        int x = Math.abs(a), y = Math.abs(b);
        // Fifty steps are enough for any two ints.
        for (int step = 0; step < 50 && y != 0; step++) {
            int rest = x % y;
            x = y;
            y = rest;
        }
        return x;
    }

    /** THE TEXT, and the token that reading has come to. */
    private static final class Text {
        private final int[] bytes = new int[TEXT_MOST];
        private int length;
        private int place;
        private int token;
        private int start;
        private int value;

        boolean isFull() {
            return length >= bytes.length;
        }

        int add(int c) {
            put(bytes, length, c);
            length++;
            return length;
        }

        int wipe() {
            int had = length;
            length = 0;
            return had;
        }

        void rewind() {
            place = 0;
        }

        void readToken() {
            while (place < length && at(bytes, place) == BLANK) {
                place++;
            }
            start = place;
            value = 0;
            int c = at(bytes, place);
            if (place >= length) {
                token = AT_END;
            } else if (isLetter(c)) {
                readLetters();
            } else if (isDigit(c)) {
                readNumber();
            } else {
                token = c == ';' ? STOP : WRONG;
                place++;
            }
        }

        /** The value is the letter, or 0 for several: no item begins with those. */
        private void readLetters() {
            while (place < length && isLetter(at(bytes, place))) {
                place++;
            }
            token = LETTERS;
            value = place - start == 1 ? at(bytes, start) : 0;
        }

        private void readNumber() {
            while (place < length && isDigit(at(bytes, place))) {
                // Held down, so that no row of figures runs over.
                value = Math.min(NUMBER_MOST + 1, value * 10 + at(bytes, place) - '0');
                place++;
            }
            boolean zeroAhead = at(bytes, start) == '0' && place - start > 1;
            token = zeroAhead || value > NUMBER_MOST ? WRONG : NUMBER;
        }

        private static boolean isLetter(int c) {
            return c >= 'a' && c <= 'z';
        }

        private static boolean isDigit(int c) {
            return c >= '0' && c <= '9';
        }
    }

    /** What was told: the trays, toner and bins at first, and the jobs. */
    private static final class Plan {
        private final int[] trays = new int[TRAYS];
        private int toner;
        private int bins;
        private final Job[] jobs = new Job[JOBS_MOST];
        private int jobCount;
        private final int[] numbers = new int[JOB_LEAST.length];
        private boolean traysTold;
        private boolean tonerTold;
        private boolean binsTold;

        Plan() {
            for (int j = 0; j < jobs.length; j++) {
                jobs[j] = new Job();
            }
            untell();
        }

        private void untell() {
            Arrays.fill(trays, TRAY_FIRST);
            toner = TONER_FIRST;
            bins = BINS_FIRST;
            jobCount = 0;
            traysTold = false;
            tonerTold = false;
            binsTold = false;
        }

        Job jobAt(int j) {
            return j >= 0 && j < jobCount && j < jobs.length ? jobs[j] : null;
        }

        boolean hasBin(int b) {
            return b >= 0 && b < bins;
        }

        int binOf(Job job, int k) {
            int part = job.sorted ? job.copyOf(k) : job.leafOf(k);
            return bins > 0 ? part % bins : 0;
        }

        /** How many items, or FAULT_BASE less the place of the first token that can't stand. */
        int readFrom(Text text) {
            untell();
            text.rewind();
            for (int items = 0; items <= TEXT_MOST; items++) {
                text.readToken();
                if (text.token == AT_END) {
                    return items;
                }
                if (!readItem(text)) {
                    break;
                }
            }
            return FAULT_BASE - text.start;
        }

        private boolean readItem(Text text) {
            switch (text.token == LETTERS ? text.value : 0) {
                case 't': return !traysTold && readNumbers(text, TRAYS_LEAST, TRAYS_MOST) && tellTrays();
                case 'k': return !tonerTold && readNumbers(text, TONER_TOLD_LEAST, TONER_TOLD_MOST) && tellToner();
                case 'b': return !binsTold && readNumbers(text, BINS_TOLD_LEAST, BINS_TOLD_MOST) && tellBins();
                case 'j': return jobCount < JOBS_MOST && readNumbers(text, JOB_LEAST, JOB_MOST) && tellJob();
                default: return false;
            }
        }

        private boolean readNumbers(Text text, int[] least, int[] most) {
            for (int i = 0; i < least.length; i++) {
                text.readToken();
                if (text.token != NUMBER || text.value < least[i] || text.value > at(most, i)) {
                    return false;
                }
                put(numbers, i, text.value);
            }
            text.readToken();
            return text.token == STOP;
        }

        private boolean tellTrays() {
            copyRow(numbers, trays);
            traysTold = true;
            return true;
        }

        private boolean tellToner() {
            toner = at(numbers, 0);
            tonerTold = true;
            return true;
        }

        private boolean tellBins() {
            bins = at(numbers, 0);
            binsTold = true;
            return true;
        }

        private boolean tellJob() {
            jobCount++;
            Job job = jobAt(jobCount - 1);
            if (job != null) {
                job.tell(numbers);
            }
            return job != null;
        }
    }

    /** A job as it was told, and which page is on which of its sheets. */
    private static final class Job {
        private int pages = 1;
        private int copies = 1;
        private boolean both;
        private boolean sorted;
        private int tray;
        private int leaves = 1;
        /** Sheets come in runs: the leaves of a copy, or the copies of a leaf. */
        private int run = 1;

        void tell(int[] numbers) {
            pages = at(numbers, 0);
            copies = at(numbers, 1);
            both = at(numbers, 2) == 1;
            sorted = at(numbers, 3) == 1;
            tray = at(numbers, 4);
            leaves = both ? (pages + 1) / 2 : pages;
            run = sorted ? leaves : copies;
        }

        int all() {
            return leaves * copies;
        }

        boolean hasSheet(int k) {
            return k >= 0 && k < all();
        }

        boolean hasPage(int page) {
            return page >= 1 && page <= pages;
        }

        int copyOf(int k) {
            if (run <= 0) {
                return 0;
            }
            return sorted ? k / run : k % run;
        }

        int leafOf(int k) {
            if (run <= 0) {
                return 0;
            }
            return sorted ? k % run : k / run;
        }

        int frontOf(int k) {
            return both ? 2 * leafOf(k) + 1 : leafOf(k) + 1;
        }

        int backOf(int k) {
            int behind = 2 * leafOf(k) + 2;
            return both && behind <= pages ? behind : 0;
        }

        int sidesOf(int k) {
            return backOf(k) == 0 ? 1 : 2;
        }

        int sheetWith(int page, int copy) {
            int leaf = both ? (page - 1) / 2 : page - 1;
            return sorted ? copy * leaves + leaf : leaf * copies + copy;
        }
    }

    /** All that goes on as ticks pass. */
    private static final class Now {
        private int tick;
        private int toner;
        private boolean half;
        private int queued;
        private final int[] queue = new int[JOBS_MOST];
        private final int[] made = new int[JOBS_MOST];
        private final int[] ends = new int[JOBS_MOST];
        private final int[] trays = new int[TRAYS];
        private final int[] bins = new int[BINS_MOST];

        void begin(Plan plan) {
            tick = 0;
            toner = plan.toner;
            half = false;
            queued = plan.jobCount;
            for (int i = 0; i < queue.length; i++) {
                queue[i] = i;
            }
            Arrays.fill(made, 0);
            Arrays.fill(ends, NONE);
            copyRow(plan.trays, trays);
            Arrays.fill(bins, 0);
        }

        void copyFrom(Now other) {
            tick = other.tick;
            toner = other.toner;
            half = other.half;
            queued = other.queued;
            copyRow(other.queue, queue);
            copyRow(other.made, made);
            copyRow(other.ends, ends);
            copyRow(other.trays, trays);
            copyRow(other.bins, bins);
        }

        int madeOf(int j) {
            return at(made, j);
        }

        int endOf(int j) {
            return at(ends, j);
        }

        int firstJob() {
            return queued > 0 ? at(queue, 0) : NONE;
        }

        int placeOf(int j) {
            for (int i = 0; i < queued && i < queue.length; i++) {
                if (queue[i] == j) {
                    return i;
                }
            }
            return NONE;
        }

        void comeToHead(int j) {
            for (int i = placeOf(j); i > 0; i--) {
                put(queue, i, at(queue, i - 1));
            }
            put(queue, 0, j);
            half = false;
        }

        void leaveQueue(int j) {
            int place = placeOf(j);
            if (place == NONE) {
                return;
            }
            if (place == 0) {
                half = false;
            }
            for (int i = place; i + 1 < queued; i++) {
                put(queue, i, at(queue, i + 1));
            }
            queued--;
        }

        /** 1 for the tray, 2 for the toner, 3 for the bin; 0: it does not stand, or there is no job. */
        int whyStands(Plan plan) {
            int j = firstJob();
            Job job = plan.jobAt(j);
            if (job == null) {
                return 0;
            }
            int k = madeOf(j);
            if (at(trays, job.tray) <= 0) {
                return 1;
            }
            if (toner < job.sidesOf(k)) {
                return 2;
            }
            return at(bins, plan.binOf(job, k)) >= BIN_MOST ? 3 : 0;
        }

        /** Whether a sheet came. */
        boolean passTick(Plan plan) {
            tick++;
            int j = firstJob();
            Job job = plan.jobAt(j);
            if (job == null || whyStands(plan) != 0) {
                return false;
            }
            if (!half && job.sidesOf(madeOf(j)) == 2) {
                half = true;
                return false;
            }
            bringSheet(plan, job, j);
            return true;
        }

        private void bringSheet(Plan plan, Job job, int j) {
            int k = madeOf(j);
            int b = plan.binOf(job, k);
            half = false;
            put(trays, job.tray, at(trays, job.tray) - 1);
            toner -= job.sidesOf(k);
            put(bins, b, at(bins, b) + 1);
            put(made, j, k + 1);
            if (k + 1 >= job.all()) {
                put(ends, j, tick);
                leaveQueue(j);
            }
        }

        int leftOf(Plan plan, int j) {
            Job job = plan.jobAt(j);
            if (job == null || placeOf(j) == NONE) {
                return 0;
            }
            int left = 0;
            for (int k = madeOf(j); k < job.all(); k++) {
                left += job.sidesOf(k);
            }
            return left;
        }

        int sheetsInBins() {
            int sum = 0;
            for (int b = 0; b < bins.length; b++) {
                sum += bins[b];
            }
            return sum;
        }

        int trayWants(Plan plan, int t) {
            int wanted = 0;
            for (int i = 0; i < queued; i++) {
                int j = at(queue, i);
                Job job = plan.jobAt(j);
                if (job != null && job.tray == t) {
                    wanted += job.all() - madeOf(j);
                }
            }
            return Math.max(0, wanted - at(trays, t));
        }

        int tonerWants(Plan plan) {
            int wanted = 0;
            for (int i = 0; i < queued; i++) {
                wanted += leftOf(plan, at(queue, i));
            }
            return Math.max(0, wanted - toner);
        }
    }

    /** How it is now, and how it was ahead of each call that may be undone; an image is one, too. */
    private static final class Course {
        private final Now now = new Now();
        private final Now[] known = new Now[KNOWN_MOST];
        private int oldest;
        private int knownCount;

        Course() {
            for (int i = 0; i < known.length; i++) {
                known[i] = new Now();
            }
        }

        void begin(Plan plan) {
            now.begin(plan);
            oldest = 0;
            knownCount = 0;
        }

        /** The known ones go round in a ring, so that the oldest is the one that is lost. */
        private Now knownAt(int i) {
            int place = Math.floorMod(oldest + i, KNOWN_MOST);
            return place < known.length ? known[place] : null;
        }

        void remember() {
            if (knownCount >= KNOWN_MOST) {
                oldest = Math.floorMod(oldest + 1, KNOWN_MOST);
                knownCount = KNOWN_MOST - 1;
            }
            Now free = knownAt(knownCount);
            if (free != null) {
                free.copyFrom(now);
            }
            knownCount++;
        }

        void takeBack() {
            if (knownCount == 0) {
                return;
            }
            knownCount--;
            Now latest = knownAt(knownCount);
            if (latest != null) {
                now.copyFrom(latest);
            }
        }

        void copyFrom(Course other) {
            now.copyFrom(other.now);
            oldest = 0;
            knownCount = other.knownCount;
            for (int i = 0; i < knownCount; i++) {
                Now from = other.knownAt(i);
                Now to = knownAt(i);
                if (from != null && to != null) {
                    to.copyFrom(from);
                }
            }
        }
    }

    /** What was seen of the sheets of an unknown job. */
    private static final class Seen {
        private final int[] sheets = new int[SEEN_MOST];
        private final int[] pages = new int[SEEN_MOST];
        private final int[] there = new int[SEEN_MOST];
        private int size;
        private final int[] withFront = new int[PAGE_MOST + 1];

        int add(int k, int page, int isThere) {
            put(sheets, size, k);
            put(pages, size, page);
            put(there, size, isThere);
            size++;
            return size;
        }

        int forgetAll() {
            int had = size;
            size = 0;
            return had;
        }

        /** The jobs, as bits, by which all that was seen is so. */
        int fittingOf(Plan plan) {
            int bits = 0;
            for (int j = 0; j < plan.jobCount; j++) {
                Job job = plan.jobAt(j);
                if (job != null && fits(job)) {
                    bits |= 1 << j;
                }
            }
            return bits;
        }

        private boolean fits(Job job) {
            for (int i = 0; i < size; i++) {
                int k = at(sheets, i);
                boolean has = job.hasSheet(k) && job.frontOf(k) == at(pages, i);
                if (has != (at(there, i) == 1)) {
                    return false;
                }
            }
            return true;
        }

        /** By how many of these jobs each page is in front of sheet k. */
        void countFronts(Plan plan, int bits, int k) {
            Arrays.fill(withFront, 0);
            for (int j = 0; j < JOBS_MOST; j++) {
                Job job = plan.jobAt(j);
                if ((bits >> j & 1) != 0 && job != null && job.hasSheet(k)) {
                    int page = job.frontOf(k);
                    put(withFront, page, at(withFront, page) + 1);
                }
            }
        }
    }
}
