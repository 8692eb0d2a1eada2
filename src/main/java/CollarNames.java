/** A home's laundry: people, garments whose names wash out, and the weeks in which they change hands. */
public final class CollarNames {
    private static final int BEYOND = 0;
    private static final int FULL = 1;
    private static final int KIND = 2;
    private static final int NONE = 3;
    private static final int STATE = 4;
    private static final int MISSING = 5;
    private static final int SIZE = 6;
    private static final int FINDINGS = 7;
    private static final int FIRST_FINDING = -1000000001;

    private static final int MOST_PEOPLE = 6;
    private static final int MOST_GARMENTS = 10;
    private static final int MOST_BYTES = 120;
    private static final int MOST_NUMBERS = 40;
    private static final int SHEETS = 4;
    private static final int LAST_WEEK = 99999;
    private static final int COOLEST = 20;
    private static final int HOTTEST = 90;
    private static final int PLAINEST = 99;
    private static final int MOST_CONTENT = 999;
    private static final int BANDS = 3;
    private static final int HEAP = -1;

    private static final int GUEST = 0;
    private static final int MINDER = 1;
    private static final int VAGUE = 2;
    private static final int DEAF = 3;
    private static final int DAUGHTER = 4;
    private static final int MAGPIE = 5;
    private static final int KINDS = 6;

    private static final int SEWN = 0;
    private static final int IRONED = 1;
    private static final int PEN = 2;
    private static final int MARKS = 3;

    private final Home live;
    /** Where weeks ahead and unproved texts are tried; made once, since no room is given back. */
    private final Home trial;
    private final Home kept;
    private boolean isKept;
    private final Tape tape;
    private final HomeText text;
    private final Sheet[] sheets;
    private final int[] findings;

    public CollarNames() {
        live = new Home();
        trial = new Home();
        kept = new Home();
        isKept = false;
        tape = new Tape();
        text = new HomeText(tape, trial);
        sheets = new Sheet[SHEETS];
        for (int s = 0; s < SHEETS; s++) {
            sheets[s] = new Sheet();
        }
        findings = new int[FINDINGS];
    }

    // ---- the home

    public int heat(int v) {
        if (!isWithin(v, COOLEST, HOTTEST)) {
            return finding(BEYOND);
        }
        int was = live.warmth;
        live.warmth = v;
        return was;
    }

    public int now(int what) {
        switch (what) {
            case 0: return live.week;
            case 1: return live.warmth;
            case 2: return live.setHeldBy(HEAP);
            case 3: return live.setOfRight();
            case 4: return live.setOfLiving();
            case 5: return 10000 + live.sumOfContents();
            default: return finding(BEYOND);
        }
    }

    // ---- people

    public int person(int kind) {
        if (!isKind(kind)) {
            return finding(BEYOND);
        }
        if (live.people >= MOST_PEOPLE) {
            return finding(FULL);
        }
        return live.addPerson(kind);
    }

    public int of(int person, int what) {
        if (!live.hasPerson(person)) {
            return finding(BEYOND);
        }
        switch (what) {
            case 0: return live.kinds[person];
            case 1: return live.bands[person];
            case 2: return 1000 + live.contents[person];
            case 3: return live.gone[person];
            case 4: return live.setHeldBy(person);
            case 5:
                live.tally();
                return 1000 + live.minds(person);
            default: return finding(BEYOND);
        }
    }

    public int set(int person, int what, int v) {
        if (!live.hasPerson(person)) {
            return finding(BEYOND);
        }
        switch (what) {
            case 1: return putChecked(live.bands, person, v, 0, BANDS - 1);
            case 2: return putChecked(live.contents, person, v, -MOST_CONTENT, MOST_CONTENT);
            case 3: return putChecked(live.gone, person, v, 0, 1);
            default: return finding(BEYOND);
        }
    }

    public int would(int person, int garment, int what) {
        if (!live.hasPerson(person) || !live.hasGarment(garment) || !isWithin(what, 0, 1)) {
            return finding(BEYOND);
        }
        live.tally();
        boolean does = what == 0 ? live.givesBack(person, garment) : live.claims(person, garment);
        return does ? 1 : 0;
    }

    public int turn(int person, int kind) {
        if (!live.hasPerson(person)) {
            return finding(BEYOND);
        }
        return putChecked(live.kinds, person, kind, 0, KINDS - 1);
    }

    public int as(int person, int kind) {
        if (!live.hasPerson(person) || !isKind(kind)) {
            return finding(BEYOND);
        }
        if (!isUnder(live.kinds[person], kind)) {
            return finding(KIND);
        }
        return 1000 + live.contents[person];
    }

    // ---- garments

    public int garment(int owner, int mark) {
        if (!live.hasPerson(owner) || !isWithin(mark, 0, MARKS - 1)) {
            return finding(BEYOND);
        }
        if (live.garments >= MOST_GARMENTS) {
            return finding(FULL);
        }
        return live.addGarment(owner, mark);
    }

    public int garmentOf(int garment, int what) {
        if (!live.hasGarment(garment)) {
            return finding(BEYOND);
        }
        switch (what) {
            case 0: return live.owners[garment];
            case 1: return live.marks[garment];
            case 2: return live.names[garment];
            case 3: return live.holders[garment];
            case 4: return live.readsFor(garment);
            case 5: return live.fades(garment);
            default: return finding(BEYOND);
        }
    }

    public int sew(int garment, int what, int v) {
        if (!live.hasGarment(garment)) {
            return finding(BEYOND);
        }
        switch (what) {
            case 0: return putChecked(live.owners, garment, v, 0, live.people - 1);
            case 1: return putChecked(live.marks, garment, v, 0, MARKS - 1);
            case 2: return putChecked(live.names, garment, v, 0, PLAINEST);
            case 3: return putChecked(live.holders, garment, v, HEAP, live.people - 1);
            default: return finding(BEYOND);
        }
    }

    // ---- weeks

    public int weeks(int n) {
        if (!isWithin(n, 1, 60)) {
            return finding(BEYOND);
        }
        if (live.week + n > LAST_WEEK) {
            return finding(STATE);
        }
        live.goWeeks(n);
        return live.setOfRight();
    }

    public int on(int garment, int n, int what) {
        if (!live.hasGarment(garment) || !isWithin(n, 0, 100) || !isWithin(what, 0, 1)) {
            return finding(BEYOND);
        }
        startTrial();
        trial.goWeeks(n);
        return what == 0 ? trial.names[garment] : trial.holders[garment];
    }

    public int then(int person, int n) {
        if (!live.hasPerson(person) || !isWithin(n, 0, 100)) {
            return finding(BEYOND);
        }
        startTrial();
        trial.goWeeks(n);
        return 1000 + trial.contents[person];
    }

    public int lost(int garment) {
        if (!live.hasGarment(garment)) {
            return finding(BEYOND);
        }
        startTrial();
        for (int n = 0; n <= 100; n++) {
            if (!trial.isRight(garment)) {
                return n;
            }
            trial.goWeeks(1);
        }
        return finding(NONE);
    }

    public int comes(int garment, int person) {
        if (!live.hasGarment(garment) || !live.hasPerson(person)) {
            return finding(BEYOND);
        }
        startTrial();
        for (int n = 0; n <= 100; n++) {
            if (trial.holders[garment] == person) {
                return n;
            }
            trial.goWeeks(1);
        }
        return finding(NONE);
    }

    // ---- what is best

    public int mark(int garment, int n) {
        if (!live.hasGarment(garment) || !isWithin(n, 1, 40)) {
            return finding(BEYOND);
        }
        int best = SEWN;
        int most = -1;
        for (int mark = 0; mark < MARKS; mark++) {
            startTrial();
            trial.marks[garment] = mark;
            int right = trial.countRightWeeks(garment, n);
            if (right > most) {
                most = right;
                best = mark;
            }
        }
        return best;
    }

    public int kind(int person, int n) {
        if (!live.hasPerson(person) || !isWithin(n, 1, 60)) {
            return finding(BEYOND);
        }
        int best = GUEST;
        int most = -1;
        for (int kind = 0; kind < KINDS; kind++) {
            startTrial();
            trial.kinds[person] = kind;
            trial.goWeeks(n);
            int own = Integer.bitCount(trial.setOfRight() & trial.setHeldBy(person));
            if (own > most) {
                most = own;
                best = kind;
            }
        }
        return best;
    }

    public int warmest(int garment, int n) {
        if (!live.hasGarment(garment) || !isWithin(n, 1, 40)) {
            return finding(BEYOND);
        }
        for (int warmth = HOTTEST; warmth >= COOLEST; warmth--) {
            startTrial();
            trial.warmth = warmth;
            trial.goWeeks(n);
            if (trial.isRight(garment)) {
                return warmth;
            }
        }
        return finding(NONE);
    }

    public int plain(int garment, int n) {
        if (!live.hasGarment(garment) || !isWithin(n, 1, 60)) {
            return finding(BEYOND);
        }
        for (int name = 0; name <= PLAINEST; name++) {
            startTrial();
            trial.names[garment] = name;
            trial.goWeeks(n);
            if (trial.isRight(garment)) {
                return name;
            }
        }
        return finding(NONE);
    }

    public int teach(int n) {
        if (!isWithin(n, 1, 60)) {
            return finding(BEYOND);
        }
        if (live.people == 0) {
            return finding(NONE);
        }
        int best = 0;
        int most = -1;
        for (int person = 0; person < live.people; person++) {
            startTrial();
            trial.kinds[person] = MINDER;
            trial.goWeeks(n);
            int right = Integer.bitCount(trial.setOfRight());
            if (right > most) {
                most = right;
                best = person;
            }
        }
        return best;
    }

    public int best(int n) {
        if (!isWithin(n, 0, 100)) {
            return finding(BEYOND);
        }
        if (live.people == 0) {
            return finding(NONE);
        }
        startTrial();
        trial.goWeeks(n);
        int best = 0;
        for (int person = 1; person < trial.people; person++) {
            if (trial.contents[person] > trial.contents[best]) {
                best = person;
            }
        }
        return best;
    }

    // ---- the text

    public int feed(int bytes, int n) {
        if (!isWithin(n, 1, 4)) {
            return finding(BEYOND);
        }
        if (tape.length + n > MOST_BYTES) {
            return finding(FULL);
        }
        for (int place = n - 1; place >= 0; place--) {
            tape.append(bytes >> (8 * place) & 255);
        }
        return tape.length;
    }

    public int wipe() {
        int had = tape.length;
        tape.clear();
        return had;
    }

    public int home() {
        startTrial();
        boolean isHome = text.takeItems();
        int fault = tape.start;
        tape.clear();
        if (!isHome) {
            return -1 - fault;
        }
        live.become(trial);
        return text.items;
    }

    // ---- sheets

    public int sheet(int s, int bits, int n) {
        if (!isSheet(s) || bits != 0 && bits != 8 && bits != 16 && bits != 64) {
            return finding(BEYOND);
        }
        if (n < 0) {
            return finding(SIZE);
        }
        if (n > MOST_NUMBERS) {
            return finding(BEYOND);
        }
        sheets[s].begin(bits, n);
        return sheets[s].length;
    }

    public long write(int s, int i, long v) {
        int wrong = findingOfSheet(s);
        if (wrong != 0) {
            return wrong;
        }
        if (!isWithin(i, 0, sheets[s].length - 1)) {
            return finding(BEYOND);
        }
        long was = sheets[s].numbers[i];
        sheets[s].put(i, v);
        return was;
    }

    public int copy(int s, int from, int t, int to, int n) {
        if (!isSheet(s) || !isSheet(t)) {
            return finding(BEYOND);
        }
        Sheet source = sheets[s];
        Sheet target = sheets[t];
        if (source.isMissing() || target.isMissing()) {
            return finding(MISSING);
        }
        if (source.bits != target.bits) {
            return finding(KIND);
        }
        if (!source.hasRun(from, n) || !target.hasRun(to, n)) {
            return finding(BEYOND);
        }
        System.arraycopy(source.numbers, from, target.numbers, to, n);
        return n;
    }

    public int lays(int s) {
        int wrong = findingOfSheet(s);
        if (wrong != 0) {
            return wrong;
        }
        int came = 0;
        for (int i = 0; i < sheets[s].length && i < live.garments; i++) {
            long number = sheets[s].numbers[i];
            if (number >= 0 && number <= PLAINEST) {
                live.names[i] = (int) number;
                came++;
            }
        }
        return came;
    }

    public int book(int s, int garment) {
        int wrong = findingOfSheet(s);
        if (wrong != 0) {
            return wrong;
        }
        if (!live.hasGarment(garment)) {
            return finding(BEYOND);
        }
        startTrial();
        for (int n = 0; n < sheets[s].length; n++) {
            sheets[s].put(n, trial.holders[garment]);
            trial.goWeeks(1);
        }
        return sheets[s].length;
    }

    public int read(int s, int garment) {
        int wrong = findingOfSheet(s);
        if (wrong != 0) {
            return wrong;
        }
        if (!live.hasGarment(garment)) {
            return finding(BEYOND);
        }
        int pairs = 0;
        for (int mark = 0; mark < MARKS; mark++) {
            for (int name = 0; name <= PLAINEST; name++) {
                startTrial();
                trial.marks[garment] = mark;
                trial.names[garment] = name;
                if (goesAsBooked(sheets[s], garment)) {
                    pairs++;
                }
            }
        }
        return pairs;
    }

    // ---- images

    public int image() {
        kept.become(live);
        isKept = true;
        return 1;
    }

    public int undo() {
        if (!isKept) {
            return finding(NONE);
        }
        live.become(kept);
        return live.people;
    }

    public int tear() {
        int was = isKept ? 1 : 0;
        isKept = false;
        return was;
    }

    public int count(int what) {
        switch (what) {
            case 0: return live.people;
            case 1: return live.garments;
            case 2: return tape.length;
            case 3: return live.sumOfNames();
            default: return finding(BEYOND);
        }
    }

    public int status(int which) {
        if (!isWithin(which, -1, FINDINGS - 1)) {
            return finding(BEYOND);
        }
        if (which >= 0) {
            return findings[which];
        }
        int all = 0;
        for (int f = 0; f < FINDINGS; f++) {
            all += findings[f];
        }
        return all;
    }

    // ---- what the calls share

    /** Counts a finding where it is told, because a sheet may hold the same number as an answer. */
    private int finding(int which) {
        findings[which]++;
        return FIRST_FINDING - which;
    }

    /** 0, or the finding of a call that needs a sheet which is there. */
    private int findingOfSheet(int s) {
        if (!isSheet(s)) {
            return finding(BEYOND);
        }
        return sheets[s].isMissing() ? finding(MISSING) : 0;
    }

    private int putChecked(int[] row, int i, int v, int least, int most) {
        if (!isWithin(v, least, most)) {
            return finding(BEYOND);
        }
        int was = row[i];
        row[i] = v;
        return was;
    }

    private void startTrial() {
        trial.become(live);
    }

    private boolean goesAsBooked(Sheet booked, int garment) {
        for (int n = 0; n < booked.length; n++) {
            if (booked.numbers[n] != trial.holders[garment]) {
                return false;
            }
            if (n + 1 < booked.length) {
                trial.goWeeks(1);
            }
        }
        return true;
    }

    private static boolean isSheet(int s) {
        return isWithin(s, 0, SHEETS - 1);
    }

    private static boolean isKind(int kind) {
        return isWithin(kind, 0, KINDS - 1);
    }

    private static boolean isWithin(int v, int least, int most) {
        return v >= least && v <= most;
    }

    private static boolean isUnder(int kind, int above) {
        return kind == above || above == GUEST || kindAbove(kind) == above;
    }

    private static int kindAbove(int kind) {
        switch (kind) {
            case DAUGHTER: return MINDER;
            case MAGPIE: return VAGUE;
            default: return GUEST;
        }
    }

    /** All that an image keeps, and how a week changes it. */
    private static final class Home {
        int week;
        int warmth;
        int people;
        final int[] kinds;
        final int[] bands;
        final int[] contents;
        final int[] gone;
        int garments;
        final int[] owners;
        final int[] marks;
        final int[] names;
        final int[] holders;
        /** How many of its own, and of others', each person has; true from tally() until somebody's garments change. */
        final int[] ownHeld;
        final int[] othersHeld;

        Home() {
            week = 0;
            warmth = 60;
            people = 0;
            kinds = new int[MOST_PEOPLE];
            bands = new int[MOST_PEOPLE];
            contents = new int[MOST_PEOPLE];
            gone = new int[MOST_PEOPLE];
            garments = 0;
            owners = new int[MOST_GARMENTS];
            marks = new int[MOST_GARMENTS];
            names = new int[MOST_GARMENTS];
            holders = new int[MOST_GARMENTS];
            ownHeld = new int[MOST_PEOPLE];
            othersHeld = new int[MOST_PEOPLE];
        }

        void become(Home other) {
            week = other.week;
            warmth = other.warmth;
            people = other.people;
            System.arraycopy(other.kinds, 0, kinds, 0, MOST_PEOPLE);
            System.arraycopy(other.bands, 0, bands, 0, MOST_PEOPLE);
            System.arraycopy(other.contents, 0, contents, 0, MOST_PEOPLE);
            System.arraycopy(other.gone, 0, gone, 0, MOST_PEOPLE);
            garments = other.garments;
            System.arraycopy(other.owners, 0, owners, 0, MOST_GARMENTS);
            System.arraycopy(other.marks, 0, marks, 0, MOST_GARMENTS);
            System.arraycopy(other.names, 0, names, 0, MOST_GARMENTS);
            System.arraycopy(other.holders, 0, holders, 0, MOST_GARMENTS);
        }

        boolean hasPerson(int person) {
            return isWithin(person, 0, people - 1);
        }

        boolean hasGarment(int garment) {
            return isWithin(garment, 0, garments - 1);
        }

        /** Asks for room for one more. */
        int addPerson(int kind) {
            int person = people;
            kinds[person] = kind;
            bands[person] = person % BANDS;
            contents[person] = 0;
            gone[person] = 0;
            people++;
            return person;
        }

        /** Asks for room for one more. */
        int addGarment(int owner, int mark) {
            int garment = garments;
            owners[garment] = owner;
            marks[garment] = mark;
            names[garment] = PLAINEST;
            holders[garment] = owner;
            garments++;
            return garment;
        }

        boolean isRight(int garment) {
            return holders[garment] == owners[garment];
        }

        int setOfRight() {
            int bits = 0;
            for (int g = 0; g < garments; g++) {
                if (isRight(g)) {
                    bits |= 1 << g;
                }
            }
            return bits;
        }

        int setHeldBy(int holder) {
            int bits = 0;
            for (int g = 0; g < garments; g++) {
                if (holders[g] == holder) {
                    bits |= 1 << g;
                }
            }
            return bits;
        }

        int setOfLiving() {
            int bits = 0;
            for (int p = 0; p < people; p++) {
                if (gone[p] == 0) {
                    bits |= 1 << p;
                }
            }
            return bits;
        }

        int sumOfContents() {
            int sum = 0;
            for (int p = 0; p < people; p++) {
                sum += contents[p];
            }
            return sum;
        }

        int sumOfNames() {
            int sum = 0;
            for (int g = 0; g < garments; g++) {
                sum += names[g];
            }
            return sum;
        }

        int fades(int garment) {
            switch (marks[garment]) {
                case IRONED: return 9 + Math.max(0, warmth - 50) / 10;
                case PEN: return warmth / 6;
                default: return 1;
            }
        }

        int readsFor(int garment) {
            int owner = owners[garment];
            if (names[garment] >= 60 && gone[owner] == 0) {
                return owner;
            }
            return names[garment] >= 20 ? leastOfBand(bands[owner]) : HEAP;
        }

        int leastOfBand(int band) {
            for (int p = 0; p < people; p++) {
                if (bands[p] == band && gone[p] == 0) {
                    return p;
                }
            }
            return HEAP;
        }

        boolean givesBack(int person, int garment) {
            switch (kinds[person]) {
                case MINDER:
                case DAUGHTER: return true;
                case VAGUE:
                case MAGPIE: return false;
                case DEAF: return names[garment] >= 80;
                default: return names[garment] >= 60;
            }
        }

        /** By the tally. */
        boolean claims(int person, int garment) {
            boolean isOwn = owners[garment] == person;
            boolean hasNothing = ownHeld[person] + othersHeld[person] == 0;
            switch (kinds[person]) {
                case MINDER:
                case DAUGHTER: return isOwn;
                case VAGUE: return hasNothing;
                case MAGPIE: return hasNothing || names[garment] >= 50;
                default: return isOwn && names[garment] >= 1;
            }
        }

        /** By the tally. */
        int minds(int person) {
            int own = ownHeld[person];
            int others = othersHeld[person];
            switch (kinds[person]) {
                case MINDER: return 2 * own - 3 * others;
                case VAGUE: return own + others;
                case DEAF: return own - others + 1;
                case DAUGHTER: return 2 * own - 3 * others + (others == 0 ? 2 : 0);
                case MAGPIE: return own + 2 * others;
                default: return own - others;
            }
        }

        void tally() {
            for (int p = 0; p < people; p++) {
                ownHeld[p] = 0;
                othersHeld[p] = 0;
            }
            for (int g = 0; g < garments; g++) {
                if (holders[g] != HEAP) {
                    tallyOne(g);
                }
            }
        }

        void tallyOne(int garment) {
            int holder = holders[garment];
            if (owners[garment] == holder) {
                ownHeld[holder]++;
            } else {
                othersHeld[holder]++;
            }
        }

        void goWeeks(int n) {
            for (int i = 0; i < n; i++) {
                bringWash();
                tally();
                if (week % 2 == 1) {
                    layTable();
                }
                addContents();
                week++;
            }
        }

        int countRightWeeks(int garment, int n) {
            int right = 0;
            for (int i = 0; i < n; i++) {
                goWeeks(1);
                if (isRight(garment)) {
                    right++;
                }
            }
            return right;
        }

        void bringWash() {
            for (int g = 0; g < garments; g++) {
                int holder = holders[g];
                if (holder == HEAP) {
                    continue;
                }
                names[g] = Math.max(0, names[g] - fades(g));
                if (holder == owners[g] || gone[holder] == 1 || givesBack(holder, g)) {
                    holders[g] = readsFor(g);
                }
            }
        }

        /** Keeps the tally true, because a claim may hang on what was taken before it. */
        void layTable() {
            for (int g = 0; g < garments; g++) {
                if (holders[g] == HEAP) {
                    holders[g] = leastClaimant(g);
                    if (holders[g] != HEAP) {
                        tallyOne(g);
                    }
                }
            }
        }

        int leastClaimant(int garment) {
            for (int p = 0; p < people; p++) {
                if (gone[p] == 0 && claims(p, garment)) {
                    return p;
                }
            }
            return HEAP;
        }

        void addContents() {
            for (int p = 0; p < people; p++) {
                if (gone[p] == 0) {
                    int content = contents[p] + minds(p);
                    contents[p] = Math.max(-MOST_CONTENT, Math.min(MOST_CONTENT, content));
                }
            }
        }
    }

    /** The bytes of a text, and the token at which its reader stands. */
    private static final class Tape {
        static final int END = 0;
        static final int WORD = 1;
        static final int NUMBER = 2;
        static final int SIGN = 3;
        static final int STRANGE = 4;

        final int[] bytes;
        int length;
        int token;
        int start;
        int behind;
        int number;

        Tape() {
            bytes = new int[MOST_BYTES];
            length = 0;
            rewind();
        }

        /** Asks for room for one more. */
        void append(int oneByte) {
            bytes[length] = oneByte;
            length++;
        }

        void clear() {
            length = 0;
        }

        void rewind() {
            token = END;
            start = 0;
            behind = 0;
            number = 0;
        }

        /** Numbers stop counting at 1000, which none may be, so that long ones can't wrap around. */
        void step() {
            start = behind;
            while (start < length && bytes[start] == ' ') {
                start++;
            }
            behind = start;
            number = 0;
            token = start < length ? tokenOf(bytes[start]) : END;
            int last = token == SIGN || token == STRANGE ? start + 1 : length;
            while (behind < last && tokenOf(bytes[behind]) == token) {
                if (token == NUMBER) {
                    number = Math.min(1000, number * 10 + bytes[behind] - '0');
                }
                behind++;
            }
        }

        static int tokenOf(int oneByte) {
            if (oneByte >= 'a' && oneByte <= 'z') {
                return WORD;
            }
            if (oneByte >= '0' && oneByte <= '9') {
                return NUMBER;
            }
            return oneByte == ';' ? SIGN : STRANGE;
        }

        boolean isAtWord(String word) {
            if (token != WORD || behind - start != word.length()) {
                return false;
            }
            for (int i = 0; i < word.length(); i++) {
                if (bytes[start + i] != word.charAt(i)) {
                    return false;
                }
            }
            return true;
        }

        boolean isAtNumber(int least, int most) {
            return token == NUMBER && isWithin(number, least, most);
        }
    }

    /** The grammar of a home's text. Each part answers whether it stood, and else leaves the tape at the fault. */
    private static final class HomeText {
        final Tape tape;
        final Home draft;
        int items;

        HomeText(Tape tape, Home draft) {
            this.tape = tape;
            this.draft = draft;
            items = 0;
        }

        boolean takeItems() {
            items = 0;
            tape.rewind();
            for (int i = 0; i <= tape.length; i++) {
                tape.step();
                if (!takeItem()) {
                    return false;
                }
                items++;
                if (tape.token != Tape.SIGN) {
                    return tape.token == Tape.END;
                }
            }
            return false;
        }

        boolean takeItem() {
            int kind = kindAtTape();
            if (kind >= 0) {
                return takePerson(kind);
            }
            int mark = markAtTape();
            if (mark >= 0) {
                return takeGarment(mark);
            }
            if (tape.isAtWord("heat")) {
                return takeHeat();
            }
            return tape.isAtWord("dies") && takeDeath();
        }

        boolean takePerson(int kind) {
            if (draft.people >= MOST_PEOPLE) {
                return false;
            }
            int person = draft.addPerson(kind);
            tape.step();
            if (tape.isAtWord("band")) {
                if (!takeNumber(0, BANDS - 1)) {
                    return false;
                }
                draft.bands[person] = tape.number;
                tape.step();
            }
            return true;
        }

        boolean takeGarment(int mark) {
            if (draft.garments >= MOST_GARMENTS || !takeNumber(0, draft.people - 1)) {
                return false;
            }
            int garment = draft.addGarment(tape.number, mark);
            tape.step();
            if (tape.isAtWord("name")) {
                if (!takeNumber(0, PLAINEST)) {
                    return false;
                }
                draft.names[garment] = tape.number;
                tape.step();
            }
            if (tape.isAtWord("heap")) {
                draft.holders[garment] = HEAP;
                tape.step();
            }
            return true;
        }

        boolean takeHeat() {
            if (!takeNumber(COOLEST, HOTTEST)) {
                return false;
            }
            draft.warmth = tape.number;
            tape.step();
            return true;
        }

        boolean takeDeath() {
            if (!takeNumber(0, draft.people - 1)) {
                return false;
            }
            draft.gone[tape.number] = 1;
            tape.step();
            return true;
        }

        /** Steps onto a number and stays there, so that its caller may use it. */
        boolean takeNumber(int least, int most) {
            tape.step();
            return tape.isAtNumber(least, most);
        }

        int kindAtTape() {
            if (tape.isAtWord("guest")) {
                return GUEST;
            }
            if (tape.isAtWord("minder")) {
                return MINDER;
            }
            if (tape.isAtWord("vague")) {
                return VAGUE;
            }
            if (tape.isAtWord("deaf")) {
                return DEAF;
            }
            if (tape.isAtWord("daughter")) {
                return DAUGHTER;
            }
            return tape.isAtWord("magpie") ? MAGPIE : -1;
        }

        int markAtTape() {
            if (tape.isAtWord("sewn")) {
                return SEWN;
            }
            if (tape.isAtWord("ironed")) {
                return IRONED;
            }
            return tape.isAtWord("pen") ? PEN : -1;
        }
    }

    /** A row of numbers of one width; missing while that is 0. */
    private static final class Sheet {
        final long[] numbers;
        int bits;
        int length;

        Sheet() {
            numbers = new long[MOST_NUMBERS];
            bits = 0;
            length = 0;
        }

        boolean isMissing() {
            return bits == 0;
        }

        void begin(int newBits, int n) {
            bits = newBits;
            length = newBits == 0 ? 0 : n;
            for (int i = 0; i < MOST_NUMBERS; i++) {
                numbers[i] = 0;
            }
        }

        void put(int i, long v) {
            switch (bits) {
                case 8:
                    numbers[i] = (byte) v;
                    break;
                case 16:
                    numbers[i] = (short) v;
                    break;
                default:
                    numbers[i] = v;
                    break;
            }
        }

        boolean hasRun(int from, int n) {
            return from >= 0 && n >= 0 && from <= length && n <= length - from;
        }
    }
}
