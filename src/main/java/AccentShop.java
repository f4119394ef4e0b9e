/** A shop for accents: who wears which from when, how each comes to speak, and what had better be done. */
public final class AccentShop {
    public static final int NONE = -1, BAD = -2, NOT = -3, FULL = -4;

    private static final int SOUNDS = 5;
    private static final int HIGHEST_MARK = 9;
    private static final int DAYS = 30;
    private static final int LAST_DAY = DAYS - 1;
    private static final int WEEK = 7;
    private static final int SUNDAY = 6;
    /** How many accents, people, hirings and things heard there may be, of each. */
    private static final int MOST = 8;
    /** One may be taken for each of the accents, or for none. */
    private static final int TAKINGS = MOST + 1;
    private static final int KINDS = 3;
    private static final int CHILD = 1;
    private static final int LORD = 2;
    /** How each sound is of one whose own accent is not there. */
    private static final int MIDDLE = 5;

    private static final int TEXTS = 2;
    private static final int BYTES = 256;
    private static final int SIXTEENTHS = 16;
    private static final int LONGEST_ROW = 2;

    private static final int SHEETS = 4;
    private static final int FORMS = 3;
    private static final int ITEMS = 60;
    private static final int LOST = -1;
    private static final int ITEMS_OF_HIRING = 3;

    private static final int NULL = 1;
    private static final int INDEX = 2;
    private static final int CAST = 3;
    private static final int STORE = 4;
    private static final int SIZE = 5;
    private static final int ABOVE_FINDINGS = -10;
    private static final int LEAST_INT = 0x80000000;
    private static final long LEAST_LONG = 0x8000000000000000L;

    private static final int[] DIGEST_DRAWER_DAYS = {6, 20, 29};
    private static final int[] DIGEST_SPEECH_DAYS = {0, 7, 15, 29};

    private final Text accentText;
    private final Text peopleText;
    /** What was told. */
    private final Setting told;
    /** What is tried in place of it: filled anew for each trial. */
    private final Setting tried;
    /** A walk through what was told, kept between calls so that a later day goes on from it. */
    private final Walk days;
    private final Walk trial;
    private final Heard heard;
    private final Sheet[] sheets;
    /** Who is astray, by which of the hirings come to be; kept, since every chance asks all of it. */
    private final int[] strays;
    private boolean straysKnown;
    private final int[] firstDays;
    /** By day, how often one was taken for none and for each accent. */
    private final int[] tally;
    private final int[] refused;
    private int latestFinding;

    public AccentShop() {
        accentText = new Text(new int[55], "kyg", SOUNDS, '9');
        peopleText = new Text(new int[23], "pcl", 1, '7');
        told = new Setting();
        tried = new Setting();
        days = new Walk(told);
        trial = new Walk(tried);
        heard = new Heard();
        sheets = new Sheet[SHEETS];
        for (int s = 0; s < SHEETS; s++) {
            sheets[s] = new Sheet();
        }
        strays = new int[1 << MOST];
        straysKnown = false;
        firstDays = new int[MOST];
        tally = new int[DAYS * TAKINGS];
        refused = new int[LONGEST_ROW];
        latestFinding = 0;
    }

    // ---- accents, people, hirings

    public int type(int text, int b) {
        if (!isBelow(text, TEXTS) || !isBelow(b, BYTES)) {
            return BAD;
        }
        Text typed = textOf(text);
        if (!typed.append(b)) {
            return FULL;
        }
        tellAgain();
        return typed.length;
    }

    public int wipe(int text) {
        if (!isBelow(text, TEXTS)) {
            return BAD;
        }
        Text wiped = textOf(text);
        int had = wiped.length;
        wiped.length = 0;
        tellAgain();
        return had;
    }

    public int undo(int text) {
        if (!isBelow(text, TEXTS)) {
            return BAD;
        }
        Text undone = textOf(text);
        if (undone.length == 0) {
            return NOT;
        }
        undone.length--;
        tellAgain();
        return undone.length;
    }

    public int fault(int text) {
        return isBelow(text, TEXTS) ? textOf(text).firstFault() : BAD;
    }

    public int accent(int accent, int what) {
        if (!told.hasAccent(accent) || !isBelow(what, SOUNDS + 1)) {
            return BAD;
        }
        return what == 0 ? told.sorts[accent] : told.marks[accent * SOUNDS + what - 1];
    }

    public int person(int person, int what) {
        if (!told.hasPerson(person) || !isBelow(what, 2)) {
            return BAD;
        }
        return what == 0 ? told.kinds[person] : told.owns[person];
    }

    public int hire(int day, int person, int accent) {
        if (!mayBeHired(day, person, accent)) {
            return BAD;
        }
        if (told.hirings >= MOST) {
            return FULL;
        }
        told.addHiring(day, person, accent);
        beginAgain();
        return told.hirings;
    }

    public int back() {
        if (told.hirings == 0) {
            return NOT;
        }
        told.dropHiring(told.hirings - 1);
        beginAgain();
        return told.hirings;
    }

    public int read(int s) {
        if (!isBelow(s, SHEETS)) {
            return BAD;
        }
        Sheet from = sheets[s];
        if (from.form == LOST) {
            return finding(NULL);
        }
        int before = told.hirings;
        for (int i = 0; i + ITEMS_OF_HIRING <= from.size && told.hirings < MOST; i += ITEMS_OF_HIRING) {
            if (!mayBeHired(from.items[i], from.items[i + 1], from.items[i + 2])) {
                break;
            }
            told.addHiring(from.items[i], from.items[i + 1], from.items[i + 2]);
        }
        beginAgain();
        return told.hirings - before;
    }

    // ---- days

    public int at(int day, int person, int what) {
        if (!isBelow(day, DAYS) || !told.hasPerson(person) || !isBelow(what, SOUNDS + 3)) {
            return BAD;
        }
        standBehind(day);
        if (what < SOUNDS) {
            return days.speech[person * SOUNDS + what];
        }
        if (what == SOUNDS) {
            return days.wears[person];
        }
        int taken = days.takenFor(person);
        if (what == SOUNDS + 1 || taken == NONE) {
            return taken;
        }
        return days.far(person, taken);
    }

    public int drawer(int day, int accent, int what) {
        if (!isBelow(day, DAYS) || !told.hasAccent(accent) || !isBelow(what, SOUNDS + 1)) {
            return BAD;
        }
        standBehind(day);
        return what < SOUNDS ? days.marks[accent * SOUNDS + what] : days.wearers[accent];
    }

    public int becomes(int person) {
        if (!told.hasPerson(person)) {
            return BAD;
        }
        findFirstDays(days);
        return firstDays[person];
    }

    public int astray() {
        standBehind(LAST_DAY);
        return days.astrayBits();
    }

    public int crowd() {
        standBehind(LAST_DAY);
        clearTally();
        for (int p = 0; p < told.people; p++) {
            tallyTaken(days, p);
        }
        int best = NONE;
        int most = 0;
        for (int a = 0; a < told.accents; a++) {
            int taken = tally[LAST_DAY * TAKINGS + a + 1];
            if (taken > most) {
                most = taken;
                best = a;
            }
        }
        return best;
    }

    // ---- plans

    public int dress(int person, int accent, int day, int what) {
        if (!told.hasPerson(person) || !isBelow(accent, MOST) || !isBelow(day, DAYS) || !isBelow(what, 2)) {
            return BAD;
        }
        if (!told.hasAccent(accent)) {
            return NONE;
        }
        int best = NONE;
        int least = NONE;
        for (int a = 0; a < told.accents; a++) {
            tryHiringMore(day, person, a);
            int far = trial.far(person, accent);
            if (best == NONE || far < least) {
                best = a;
                least = far;
            }
        }
        return what == 0 ? best : least;
    }

    public int home(int person) {
        if (!told.hasPerson(person)) {
            return BAD;
        }
        int own = told.owns[person];
        if (!told.hasAccent(own)) {
            return NONE;
        }
        for (int day = LAST_DAY; day >= 0; day--) {
            tryHiringMore(day, person, own);
            if (trial.takenFor(person) == own) {
                return day;
            }
        }
        return NONE;
    }

    public int tray(int what) {
        if (!isBelow(what, 3)) {
            return BAD;
        }
        int first = NONE;
        int other = NONE;
        int fewest = NONE;
        for (int a = 0; a < told.accents; a++) {
            for (int b = a + 1; b < told.accents; b++) {
                tried.become(told);
                tried.changeDrawers(a, b);
                trial.begin();
                trial.go(LAST_DAY);
                int lost = Integer.bitCount(trial.astrayBits());
                if (first == NONE || lost < fewest) {
                    first = a;
                    other = b;
                    fewest = lost;
                }
            }
        }
        if (what == 0) {
            return first;
        }
        return what == 1 ? other : fewest;
    }

    public int refuse(int i) {
        if (i != NONE && !isBelow(i, LONGEST_ROW)) {
            return BAD;
        }
        int fewest = findRefused();
        return i == NONE ? fewest : refused[i];
    }

    // ---- heard, custom, years

    public int hear(int day, int person, int sound, int mark) {
        if (!isBelow(day, DAYS) || !isBelow(person, MOST)) {
            return BAD;
        }
        if (!isBelow(sound, SOUNDS) || !isBelow(mark, HIGHEST_MARK + 1)) {
            return BAD;
        }
        return heard.add(day, person, sound, mark) ? heard.size : FULL;
    }

    public int forget() {
        int had = heard.size;
        heard.size = 0;
        return had;
    }

    public int never() {
        int bits = 0;
        for (int k = 0; k < told.hirings; k++) {
            tried.become(told);
            tried.dropHiring(k);
            if (comesOut()) {
                bits |= 1 << k;
            }
        }
        return bits;
    }

    public int was(int person, int what) {
        if (!told.hasPerson(person) || !isBelow(what, 2)) {
            return BAD;
        }
        return what == 0 ? whoseBits(person) : sortBits(person);
    }

    public int ask(int person) {
        if (!told.hasPerson(person)) {
            return BAD;
        }
        int whose = whoseBits(person);
        clearTally();
        for (int a = 0; a < MOST; a++) {
            if ((whose & 1 << a) != 0) {
                tallyAsOwn(person, a);
            }
        }
        int best = 0;
        for (int day = 1; day < DAYS; day++) {
            if (mostAlike(day) < mostAlike(best)) {
                best = day;
            }
        }
        return best;
    }

    public long custom(int c, int person, int what) {
        if (!isBelow(c, SIXTEENTHS + 1) || !told.hasPerson(person) || !isBelow(what, 2)) {
            return LEAST_LONG - BAD;
        }
        learnStrays();
        long above = 0;
        for (int subset = 0; subset < 1 << told.hirings && subset < strays.length; subset++) {
            if ((strays[subset] & 1 << person) != 0) {
                above += weight(c, subset);
            }
        }
        int halvings = 4 * told.hirings;
        long below = 1L << halvings;
        // What is below is a power of two: to halve both is all that lowest terms need.
        for (int i = 0; i < halvings && above % 2 == 0; i++) {
            above /= 2;
            below /= 2;
        }
        return what == 0 ? above : below;
    }

    public int year(int seed, int n, int what) {
        if (!isBelow(n, MOST + 1) || !isBelow(what, 2)) {
            return BAD;
        }
        tryYear(seed, n);
        if (what == 0) {
            trial.begin();
            trial.go(LAST_DAY);
            return Integer.bitCount(trial.astrayBits());
        }
        return findFirstDays(trial);
    }

    // ---- sheets

    public int sheet(int s, int form, int n) {
        if (!isBelow(s, SHEETS) || !isBelow(form, FORMS) || n > ITEMS) {
            return BAD;
        }
        if (n < 0) {
            return finding(SIZE);
        }
        sheets[s].renew(form, n);
        return n;
    }

    public int lose(int s) {
        if (!isBelow(s, SHEETS)) {
            return BAD;
        }
        Sheet lost = sheets[s];
        if (lost.form == LOST) {
            return finding(NULL);
        }
        lost.form = LOST;
        return lost.size;
    }

    public int lay(int s, int form, int i, int v) {
        if (!isBelow(s, SHEETS) || !isBelow(form, FORMS)) {
            return BAD;
        }
        int wrong = sheets[s].whatIsWrong(form, i);
        if (wrong != 0) {
            return finding(wrong);
        }
        sheets[s].put(i, v);
        return 1;
    }

    public int get(int s, int form, int i) {
        if (!isBelow(s, SHEETS) || !isBelow(form, FORMS)) {
            return LEAST_INT;
        }
        int wrong = sheets[s].whatIsWrong(form, i);
        if (wrong != 0) {
            latestFinding = wrong;
            return LEAST_INT;
        }
        return sheets[s].items[i];
    }

    public int copy(int s, int i, int t, int j, int n) {
        if (!isBelow(s, SHEETS) || !isBelow(t, SHEETS)) {
            return BAD;
        }
        Sheet from = sheets[s];
        Sheet to = sheets[t];
        if (from.form == LOST || to.form == LOST) {
            return finding(NULL);
        }
        if (from.form != to.form) {
            return finding(STORE);
        }
        if (!from.hasItems(i, n) || !to.hasItems(j, n)) {
            return finding(INDEX);
        }
        System.arraycopy(from.items, i, to.items, j, n);
        return 1;
    }

    public int write(int person, int s) {
        if (!told.hasPerson(person) || !isBelow(s, SHEETS)) {
            return BAD;
        }
        Sheet to = sheets[s];
        if (to.form == LOST) {
            return finding(NULL);
        }
        int written = 0;
        for (int day = 0; day < DAYS && day < to.size; day++) {
            standBehind(day);
            to.put(day, days.takenFor(person));
            written++;
        }
        return written;
    }

    public int count(int what) {
        switch (what) {
            case 0:
                return told.accents;
            case 1:
                return told.people;
            case 2:
                return accentText.length;
            case 3:
                return peopleText.length;
            case 4:
                return told.hirings;
            case 5:
                return Integer.bitCount(astray());
            case 6:
                return findFirstDays(days);
            case 7:
                return heard.size;
            case 8:
                return latestFinding;
            default:
                return BAD;
        }
    }

    public long digest() {
        long h = 17;
        for (int what = 0; what < 8; what++) {
            h = 31 * h + count(what);
        }
        for (int text = 0; text < TEXTS; text++) {
            h = 31 * h + fault(text);
        }
        for (int a = 0; a < told.accents; a++) {
            h = mixAccent(h, a);
        }
        for (int p = 0; p < told.people; p++) {
            h = mixSpeech(h, p);
            h = 31 * h + becomes(p);
            h = 31 * h + dress(p, 1, 12, 0);
            h = 31 * h + dress(p, 1, 12, 1);
            h = 31 * h + home(p);
            h = 31 * h + was(p, 0);
            h = 31 * h + was(p, 1);
            h = 31 * h + ask(p);
            h = 31 * h + custom(5, p, 0);
            h = 31 * h + custom(5, p, 1);
        }
        h = 31 * h + astray();
        h = 31 * h + crowd();
        for (int what = 0; what < 3; what++) {
            h = 31 * h + tray(what);
        }
        h = 31 * h + refuse(NONE);
        h = 31 * h + refuse(0);
        h = 31 * h + never();
        h = 31 * h + year(7, 6, 0);
        return 31 * h + year(7, 6, 1);
    }

    private long mixAccent(long before, int a) {
        long h = before;
        for (int what = 0; what <= SOUNDS; what++) {
            h = 31 * h + accent(a, what);
        }
        for (int day : DIGEST_DRAWER_DAYS) {
            for (int what = 0; what <= SOUNDS; what++) {
                h = 31 * h + drawer(day, a, what);
            }
        }
        return h;
    }

    private long mixSpeech(long before, int p) {
        long h = before;
        h = 31 * h + person(p, 0);
        h = 31 * h + person(p, 1);
        for (int day : DIGEST_SPEECH_DAYS) {
            for (int what = 0; what < SOUNDS + 3; what++) {
                h = 31 * h + at(day, p, what);
            }
        }
        return h;
    }

    private static boolean isBelow(int number, int bound) {
        return number >= 0 && number < bound;
    }

    private static boolean mayBeHired(int day, int person, int accent) {
        return isBelow(day, DAYS) && isBelow(person, MOST) && isBelow(accent, MOST);
    }

    private Text textOf(int text) {
        return text == 0 ? accentText : peopleText;
    }

    private int finding(int number) {
        latestFinding = number;
        return ABOVE_FINDINGS - number;
    }

    private void tellAgain() {
        told.takeAccents(accentText);
        told.takePeople(peopleText);
        beginAgain();
    }

    /** Nothing kept from before a change of what was told may outlive it. */
    private void beginAgain() {
        days.begin();
        straysKnown = false;
    }

    private void standBehind(int day) {
        if (days.day > day) {
            days.begin();
        }
        days.go(day);
    }

    private void tryHiringMore(int day, int person, int accent) {
        tried.become(told);
        tried.addHiring(day, person, accent);
        trial.begin();
        trial.go(LAST_DAY);
    }

    /** Finds when each becomes another, from the first day on: how many do. */
    private int findFirstDays(Walk walk) {
        int others = 0;
        for (int p = 0; p < MOST; p++) {
            firstDays[p] = NONE;
        }
        walk.begin();
        for (int day = 0; day < DAYS; day++) {
            walk.go(day);
            for (int p = 0; p < walk.setting.people; p++) {
                if (firstDays[p] == NONE && walk.isAnother(p)) {
                    firstDays[p] = day;
                    others++;
                }
            }
        }
        return others;
    }

    private void clearTally() {
        for (int i = 0; i < tally.length; i++) {
            tally[i] = 0;
        }
    }

    private void tallyTaken(Walk walk, int person) {
        int place = walk.day * TAKINGS + walk.takenFor(person) + 1;
        if (isBelow(place, tally.length)) {
            tally[place]++;
        }
    }

    private void tallyAsOwn(int person, int accent) {
        tried.become(told);
        tried.owns[person] = accent;
        trial.begin();
        for (int day = 0; day < DAYS; day++) {
            trial.go(day);
            tallyTaken(trial, person);
        }
    }

    private int mostAlike(int day) {
        int most = 0;
        for (int taking = 0; taking < TAKINGS; taking++) {
            int alike = tally[day * TAKINGS + taking];
            if (alike > most) {
                most = alike;
            }
        }
        return most;
    }

    /** Finds the least row of the fewest hirings to be refused: how many. */
    private int findRefused() {
        refused[0] = NONE;
        refused[1] = NONE;
        if (nobodyAstrayWithout(NONE, NONE)) {
            return 0;
        }
        for (int k = 0; k < told.hirings; k++) {
            if (nobodyAstrayWithout(k, NONE)) {
                refused[0] = k;
                return 1;
            }
        }
        for (int k = 0; k < told.hirings; k++) {
            for (int more = k + 1; more < told.hirings; more++) {
                if (nobodyAstrayWithout(k, more)) {
                    refused[0] = k;
                    refused[1] = more;
                    return 2;
                }
            }
        }
        return NONE;
    }

    private boolean nobodyAstrayWithout(int k, int more) {
        tried.become(told);
        // The later one goes first, so that the number of the other still fits.
        tried.dropHiring(more);
        tried.dropHiring(k);
        trial.begin();
        trial.go(LAST_DAY);
        return trial.astrayBits() == 0;
    }

    /** Whether all that was heard comes out so in what is tried. */
    private boolean comesOut() {
        int latest = heard.latestDay();
        trial.begin();
        for (int day = 0; day <= latest; day++) {
            trial.go(day);
            if (!heard.agreesWith(trial)) {
                return false;
            }
        }
        return true;
    }

    private int whoseBits(int person) {
        int bits = 0;
        for (int a = 0; a < MOST; a++) {
            tried.become(told);
            tried.owns[person] = a;
            if (comesOut()) {
                bits |= 1 << a;
            }
        }
        return bits;
    }

    private int sortBits(int person) {
        int bits = 0;
        for (int kind = 0; kind < KINDS; kind++) {
            tried.become(told);
            tried.kinds[person] = kind;
            if (comesOut()) {
                bits |= 1 << kind;
            }
        }
        return bits;
    }

    private void learnStrays() {
        if (straysKnown) {
            return;
        }
        for (int subset = 0; subset < 1 << told.hirings && subset < strays.length; subset++) {
            tried.become(told);
            tried.keepHirings(subset);
            trial.begin();
            trial.go(LAST_DAY);
            strays[subset] = trial.astrayBits();
        }
        straysKnown = true;
    }

    /** In how many of all cases, sixteen for each hiring, just this subset of them comes to be. */
    private long weight(int c, int subset) {
        long cases = 1;
        for (int k = 0; k < told.hirings; k++) {
            cases *= (subset & 1 << k) != 0 ? c : SIXTEENTHS - c;
        }
        return cases;
    }

    private void tryYear(int seed, int n) {
        tried.become(told);
        tried.hirings = 0;
        int s = seed;
        for (int k = 0; k < n && told.people > 0 && told.accents > 0; k++) {
            s = seedAfter(s);
            int day = lot(s, DAYS);
            s = seedAfter(s);
            int who = lot(s, told.people);
            s = seedAfter(s);
            tried.addHiring(day, who, lot(s, told.accents));
        }
    }

    private static int seedAfter(int seed) {
        return 1103515245 * seed + 12345;
    }

    private static int lot(int seed, int m) {
        return m > 0 ? (seed >>> 16) % m : 0;
    }

    /** A text as it is typed: things of a sort and some figures, with ; between them. */
    private static final class Text {
        final int[] bytes;
        final String sorts;
        final int figures;
        final int lastFigure;
        int length;

        Text(int[] room, String sorts, int figures, int lastFigure) {
            this.bytes = room;
            this.sorts = sorts;
            this.figures = figures;
            this.lastFigure = lastFigure;
            this.length = 0;
        }

        boolean append(int b) {
            if (!isBelow(length, bytes.length)) {
                return false;
            }
            bytes[length] = b;
            length++;
            return true;
        }

        int firstFault() {
            if (length == 0) {
                return NONE;
            }
            int begun = 0;
            int place = 0;
            for (int i = 0; i < length && i < bytes.length; i++) {
                if (!fits(bytes[i], place, begun)) {
                    return i;
                }
                if (place == 0) {
                    begun++;
                }
                place = place > figures ? 0 : place + 1;
            }
            return place == figures + 1 ? NONE : length;
        }

        private boolean fits(int b, int place, int begun) {
            if (place == 0) {
                return begun < MOST && sorts.indexOf((char) b) >= 0;
            }
            return place <= figures ? b >= '0' && b <= lastFigure : b == ';';
        }

        int sortAt(int i) {
            return isBelow(i, length) ? sorts.indexOf((char) bytes[i]) : NONE;
        }

        int figureAt(int i) {
            return isBelow(i, length) ? bytes[i] - '0' : NONE;
        }
    }

    /** All that the days go by: accents, people and hirings. */
    private static final class Setting {
        int accents;
        final int[] sorts = new int[MOST];
        final int[] marks = new int[MOST * SOUNDS];
        int people;
        final int[] kinds = new int[MOST];
        final int[] owns = new int[MOST];
        int hirings;
        // A place beyond the eight: a plan's hiring comes whatever room there is.
        final int[] days = new int[MOST + 1];
        final int[] who = new int[MOST + 1];
        final int[] which = new int[MOST + 1];

        boolean hasAccent(int a) {
            return a >= 0 && a < accents;
        }

        boolean hasPerson(int p) {
            return p >= 0 && p < people;
        }

        void takeAccents(Text text) {
            accents = 0;
            if (text.firstFault() != NONE) {
                return;
            }
            int from = 0;
            for (int a = 0; a < MOST && from < text.length; a++) {
                sorts[a] = text.sortAt(from);
                for (int s = 0; s < SOUNDS; s++) {
                    marks[a * SOUNDS + s] = text.figureAt(from + 1 + s);
                }
                from += SOUNDS + 2;
                accents++;
            }
        }

        void takePeople(Text text) {
            people = 0;
            if (text.firstFault() != NONE) {
                return;
            }
            int from = 0;
            for (int p = 0; p < MOST && from < text.length; p++) {
                kinds[p] = text.sortAt(from);
                owns[p] = text.figureAt(from + 1);
                from += 3;
                people++;
            }
        }

        void become(Setting other) {
            accents = other.accents;
            people = other.people;
            hirings = other.hirings;
            System.arraycopy(other.sorts, 0, sorts, 0, MOST);
            System.arraycopy(other.marks, 0, marks, 0, MOST * SOUNDS);
            System.arraycopy(other.kinds, 0, kinds, 0, MOST);
            System.arraycopy(other.owns, 0, owns, 0, MOST);
            System.arraycopy(other.days, 0, days, 0, MOST + 1);
            System.arraycopy(other.who, 0, who, 0, MOST + 1);
            System.arraycopy(other.which, 0, which, 0, MOST + 1);
        }

        void addHiring(int day, int person, int accent) {
            if (!isBelow(hirings, days.length)) {
                return;
            }
            days[hirings] = day;
            who[hirings] = person;
            which[hirings] = accent;
            hirings++;
        }

        void dropHiring(int k) {
            if (!isBelow(k, hirings)) {
                return;
            }
            for (int i = k; i + 1 < hirings; i++) {
                moveHiring(i + 1, i);
            }
            hirings--;
        }

        void keepHirings(int subset) {
            int kept = 0;
            for (int k = 0; k < hirings; k++) {
                if ((subset & 1 << k) != 0) {
                    moveHiring(k, kept);
                    kept++;
                }
            }
            hirings = kept;
        }

        private void moveHiring(int from, int to) {
            days[to] = days[from];
            who[to] = who[from];
            which[to] = which[from];
        }

        void changeDrawers(int a, int b) {
            if (!hasAccent(a) || !hasAccent(b)) {
                return;
            }
            int sort = sorts[a];
            sorts[a] = sorts[b];
            sorts[b] = sort;
            for (int s = 0; s < SOUNDS; s++) {
                int mark = marks[a * SOUNDS + s];
                marks[a * SOUNDS + s] = marks[b * SOUNDS + s];
                marks[b * SOUNDS + s] = mark;
            }
            for (int p = 0; p < people; p++) {
                owns[p] = changed(owns[p], a, b);
            }
            for (int k = 0; k < hirings; k++) {
                which[k] = changed(which[k], a, b);
            }
        }

        private static int changed(int number, int a, int b) {
            if (number == a) {
                return b;
            }
            return number == b ? a : number;
        }
    }

    /** How everyone speaks and what the drawers say, behind one day after the other. */
    private static final class Walk {
        final Setting setting;
        /** The day behind which it stands; NONE ahead of the first. */
        int day;
        final int[] marks = new int[MOST * SOUNDS];
        final int[] speech = new int[MOST * SOUNDS];
        final int[] wears = new int[MOST];
        final int[] wearers = new int[MOST];

        Walk(Setting setting) {
            this.setting = setting;
            this.day = NONE;
        }

        /** Stands ahead of the first day, by the setting as it is now. */
        void begin() {
            day = NONE;
            System.arraycopy(setting.marks, 0, marks, 0, MOST * SOUNDS);
            for (int p = 0; p < setting.people; p++) {
                int own = setting.owns[p];
                wears[p] = own;
                for (int s = 0; s < SOUNDS; s++) {
                    speech[p * SOUNDS + s] = setting.hasAccent(own) ? marks[own * SOUNDS + s] : MIDDLE;
                }
            }
        }

        void go(int until) {
            for (int d = day + 1; d <= until && d < DAYS; d++) {
                day = d;
                doHirings();
                countWearers();
                if (d % WEEK == SUNDAY) {
                    talk(d / WEEK);
                }
                for (int p = 0; p < setting.people; p++) {
                    learn(p);
                }
            }
        }

        private void doHirings() {
            for (int k = 0; k < setting.hirings; k++) {
                if (setting.days[k] == day && setting.hasPerson(setting.who[k])) {
                    wears[setting.who[k]] = setting.which[k];
                }
            }
        }

        private void countWearers() {
            for (int a = 0; a < MOST; a++) {
                wearers[a] = 0;
            }
            for (int p = 0; p < setting.people; p++) {
                if (isBelow(wears[p], MOST)) {
                    wearers[wears[p]]++;
                }
            }
        }

        private void talk(int sound) {
            for (int a = 0; a + 1 < setting.accents; a++) {
                if (wearers[a] == 0 && wearers[a + 1] == 0) {
                    int place = a * SOUNDS + sound;
                    // The sorts are numbered as far as they give way: by 0, 1, 2.
                    marks[place] = towards(marks[place], marks[place + SOUNDS], setting.sorts[a]);
                }
            }
        }

        private void learn(int p) {
            int a = wears[p];
            int kind = setting.kinds[p];
            if (!setting.hasAccent(a) || kind == LORD && day % 2 != 0) {
                return;
            }
            int widest = NONE;
            int most = 0;
            for (int s = 0; s < SOUNDS; s++) {
                int mine = speech[p * SOUNDS + s];
                int gap = Math.abs(marks[a * SOUNDS + s] - mine);
                if (kind == CHILD) {
                    speech[p * SOUNDS + s] = towards(mine, marks[a * SOUNDS + s], 1);
                } else if (gap > most) {
                    most = gap;
                    widest = s;
                }
            }
            if (widest != NONE) {
                int place = p * SOUNDS + widest;
                speech[place] = towards(speech[place], marks[a * SOUNDS + widest], 1);
            }
        }

        private static int towards(int from, int to, int step) {
            if (to > from) {
                return to - from > step ? from + step : to;
            }
            return from - to > step ? from - step : to;
        }

        int far(int p, int a) {
            int sum = 0;
            for (int s = 0; s < SOUNDS; s++) {
                sum += Math.abs(speech[p * SOUNDS + s] - marks[a * SOUNDS + s]);
            }
            return sum;
        }

        int takenFor(int p) {
            int best = NONE;
            int least = 0;
            for (int a = 0; a < setting.accents; a++) {
                int far = far(p, a);
                if (best == NONE || far < least) {
                    best = a;
                    least = far;
                }
            }
            return best;
        }

        int astrayBits() {
            int bits = 0;
            for (int p = 0; p < setting.people; p++) {
                int taken = takenFor(p);
                if (taken != NONE && taken != setting.owns[p]) {
                    bits |= 1 << p;
                }
            }
            return bits;
        }

        boolean isAnother(int p) {
            int a = wears[p];
            return a != setting.owns[p] && setting.hasAccent(a) && far(p, a) == 0;
        }
    }

    /** What was heard of whom. */
    private static final class Heard {
        int size;
        final int[] days = new int[MOST];
        final int[] who = new int[MOST];
        final int[] sounds = new int[MOST];
        final int[] heardMarks = new int[MOST];

        boolean add(int day, int person, int sound, int mark) {
            if (!isBelow(size, MOST)) {
                return false;
            }
            days[size] = day;
            who[size] = person;
            sounds[size] = sound;
            heardMarks[size] = mark;
            size++;
            return true;
        }

        int latestDay() {
            int latest = NONE;
            for (int k = 0; k < size; k++) {
                if (days[k] > latest) {
                    latest = days[k];
                }
            }
            return latest;
        }

        /** Whether what was heard behind the day behind which the walk stands is so there. */
        boolean agreesWith(Walk walk) {
            for (int k = 0; k < size; k++) {
                if (days[k] == walk.day && !isSo(walk, k)) {
                    return false;
                }
            }
            return true;
        }

        private boolean isSo(Walk walk, int k) {
            return walk.setting.hasPerson(who[k]) && walk.speech[who[k] * SOUNDS + sounds[k]] == heardMarks[k];
        }
    }

    /** A row of a form, in room that is kept when it is lost. */
    private static final class Sheet {
        int form = LOST;
        int size = 0;
        final int[] items = new int[ITEMS];

        void renew(int newForm, int newSize) {
            form = newForm;
            size = newSize;
            for (int i = 0; i < ITEMS; i++) {
                items[i] = 0;
            }
        }

        void put(int i, int v) {
            if (!isBelow(i, size)) {
                return;
            }
            items[i] = form == 0 ? (byte) v : form == 1 ? (short) v : v;
        }

        /** The finding of one who treats item i as of a form; 0 if there is none. */
        int whatIsWrong(int asForm, int i) {
            if (form == LOST) {
                return NULL;
            }
            if (form != asForm) {
                return CAST;
            }
            return isBelow(i, size) ? 0 : INDEX;
        }

        boolean hasItems(int from, int n) {
            return from >= 0 && n >= 0 && n <= size - from;
        }
    }
}
