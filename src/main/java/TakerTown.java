import java.util.NoSuchElementException;

/** A town whose plates show something of who took them; ../shared/DOC.md numbers what each call promises. */
public final class TakerTown {
    public static final int NONE = -1;

    private static final int MOST_PERSONS = 8;
    private static final int MOST_CLAUSES = 60;
    private static final int MOST_OPEN = 6;
    private static final int MOST_PLATES = 40;
    private static final int MOST_BEGUN = 200;
    private static final int MOST_WORKS = 16;
    private static final int MOST_IMAGES = 3;
    private static final int MOST_TAKES = 96;
    private static final int MOST_SEEDS = 20;
    private static final int MOST_MOOD = 9;
    private static final int MOST_PRICE = 40;
    private static final int LAST_YEAR = 200;
    private static final int HALLS = 6;
    private static final int MARKS = 6;
    private static final int FACES = 64;
    private static final int ODDS = 16;
    private static final int PAPER_PLATES = 8;
    private static final int FEED_BYTES = 20;
    private static final int TAPE_BYTES = 600;
    private static final int LAW_BYTES = 150;
    private static final int WORK_BYTES = 150;
    private static final int WORDS_BYTES = 60;
    private static final int TOO_MANY_WORKS = -20;

    private static final int MISPLACED = 1;
    private static final int NO_SUCH_NUMBER = 2;
    private static final int ONE_TOO_MANY = 3;

    private final Text text;
    private final Folk folk;
    private final Folk draftFolk;
    private final Law rule;
    private final Law draftRule;
    private final Work plan;
    private final Clues clues;
    private final Studio studio;
    private final Takers takers;
    private final Carriers carriers;
    private final Years passing;
    private final State now;
    private final Kept[] images;
    private Kept history;
    private int imageCount;
    private int refusedSteps;
    private int missingCalls;
    private int wrongCalls;

    public TakerTown() {
        text = new Text();
        folk = new Folk();
        draftFolk = new Folk();
        rule = new Law();
        draftRule = new Law();
        plan = new Work();
        clues = new Clues(folk);
        studio = new Studio(folk, rule);
        takers = new Takers(studio);
        carriers = new Carriers(folk);
        passing = new Years(studio);
        now = new State();
        images = new Kept[MOST_IMAGES];
    }

    public int feed(int a, int b, int c, int d, int e) {
        if (text.filled + FEED_BYTES > TAPE_BYTES) {
            return NONE;
        }
        text.add(a);
        text.add(b);
        text.add(c);
        text.add(d);
        text.add(e);
        return text.filled;
    }

    public int town(int n) throws IllegalArgumentException {
        openText(n, TAPE_BYTES);
        if (!draftFolk.read(text)) {
            return text.faultAnswer();
        }
        folk.copyFrom(draftFolk);
        rule.setUsual();
        clues.clear();
        now.clear();
        history = null;
        imageCount = 0;
        refusedSteps = 0;
        return folk.size;
    }

    public int law(int n) throws IllegalArgumentException {
        openText(n, LAW_BYTES);
        if (!draftRule.read(text)) {
            return text.faultAnswer();
        }
        rule.copyFrom(draftRule);
        return 1;
    }

    public int work(int n) throws IllegalArgumentException {
        openText(n, WORK_BYTES);
        if (worksToUndo() >= MOST_WORKS) {
            return TOO_MANY_WORKS;
        }
        if (!plan.read(text, folk.size)) {
            return text.faultAnswer();
        }
        history = new Kept(now, history);
        plan.perform(studio, now);
        refusedSteps = plan.refused;
        return plan.done;
    }

    public int words(int n) throws IllegalArgumentException {
        openText(n, WORDS_BYTES);
        if (!clues.read(text)) {
            return text.faultAnswer();
        }
        return clues.lines;
    }

    public int fault() {
        return text.faultPlace;
    }

    public int undo() {
        if (history == null) {
            return NONE;
        }
        now.copyFrom(history.state);
        history = history.below;
        refusedSteps = 0;
        return worksToUndo();
    }

    public int told(int what) throws IllegalArgumentException {
        needRange(what, 8);
        switch (what) {
            case 0: return folk.size;
            case 1: return now.hanging;
            case 2: return now.year;
            case 3: return folk.alikeMost;
            case 4: return clues.lines;
            case 5: return refusedSteps;
            case 6: return now.everTaken();
            case 7: return now.everTaken() - now.hanging;
            default: return folk.shyPairs();
        }
    }

    public int person(int person, int what) throws NoSuchElementException, IllegalArgumentException {
        needPerson(person);
        needRange(what, 6);
        switch (what) {
            case 0: return folk.face[person];
            case 1: return folk.temper[person];
            case 2: return folk.price[person];
            case 3: return now.mood[person];
            case 4: return now.took[person];
            case 5: return now.sat[person];
            default: return folk.shy[person];
        }
    }

    public int plate(int plate, int what) throws NoSuchElementException, IllegalArgumentException {
        needElement(plate >= 0 && plate < now.hanging);
        needRange(what, 5);
        switch (what) {
            case 0: return now.takerOf(plate);
            case 1: return now.sitterOf(plate);
            case 2: return now.hallOf(plate);
            case 3: return now.faceOn(plate);
            case 4: return now.yearOf(plate);
            default: return folk.nearest(now.faceOn(plate));
        }
    }

    public int hall(int hall, int what) throws NoSuchElementException, IllegalArgumentException {
        needHall(hall);
        needRange(what, 3);
        int many = 0;
        int bits = 0;
        for (int i = 0; i < now.hanging; i++) {
            if (now.hallOf(i) == hall) {
                many++;
                int seen = what == 1 ? now.takerOf(i) : what == 2 ? now.sitterOf(i) : folk.nearest(now.faceOn(i));
                bits |= 1 << seen;
            }
        }
        return what == 0 ? many : bits;
    }

    public int shown(int a, int b, int hall) throws NoSuchElementException {
        needPerson(a);
        needPerson(b);
        needHall(hall);
        return studio.faceBy(now, a, b, hall, now.mood[a]);
    }

    public int would(int face, int temper, int mood, int sitter, int own, int year, int taken, int hall)
            throws IllegalArgumentException {
        needRange(face, FACES - 1);
        needRange(temper, 9);
        needRange(mood, MOST_MOOD);
        needRange(sitter, FACES - 1);
        needRange(own, 1);
        needRange(year, LAST_YEAR);
        needRange(taken, 999);
        needRange(hall, HALLS - 1);
        int[] given = studio.given;
        given[Law.FACE] = face;
        given[Law.TEMPER] = temper;
        given[Law.MOOD] = mood;
        given[Law.SITTER] = sitter;
        given[Law.OWN] = own;
        given[Law.YEAR] = year;
        given[Law.TAKEN] = taken;
        given[Law.HALL] = hall;
        return rule.faceFor(given);
    }

    public int unlike(int one, int other) throws IllegalArgumentException {
        needRange(one, FACES - 1);
        needRange(other, FACES - 1);
        return Integer.bitCount(one ^ other);
    }

    public int had() {
        return studio.hadBits(now, NONE);
    }

    public int mistaken() {
        for (int i = 0; i < now.hanging; i++) {
            if (folk.nearest(now.faceOn(i)) != now.sitterOf(i)) {
                return i;
            }
        }
        return NONE;
    }

    public int can(int b) throws NoSuchElementException {
        needPerson(b);
        return studio.takersOf(now, b);
    }

    public int fewest(int persons) throws IllegalArgumentException {
        needBits(persons);
        takers.look(now);
        return takers.leastSet(persons, false);
    }

    public int nobody(int persons) throws IllegalArgumentException {
        needBits(persons);
        for (int b = 0; b < folk.size; b++) {
            if ((persons >> b & 1) == 1 && studio.takersOf(now, b) == 0) {
                return b;
            }
        }
        return NONE;
    }

    public int ring(int n, int what) throws IllegalArgumentException {
        needArgument(n >= 2 && n <= Takers.LONGEST_RING);
        needRange(what, 1);
        takers.look(now);
        takers.seekRings(n);
        return what == 0 ? takers.rings : takers.firstRing;
    }

    public int who(int s, int b) throws NoSuchElementException, IllegalArgumentException {
        needPerson(b);
        needRange(s, FACES - 1);
        int bits = 0;
        for (int a = 0; a < folk.size; a++) {
            if (!folk.never(a, b) && studio.faceBy(now, a, b, 0, now.mood[a]) == s) {
                bits |= 1 << a;
            }
        }
        return bits;
    }

    public int made(int s) throws IllegalArgumentException {
        needRange(s, FACES - 1);
        int best = NONE;
        int size = MOST_PERSONS + 1;
        for (int set = 0; set <= folk.everybody(); set++) {
            if (Integer.bitCount(set) < size && folk.together(set) == s) {
                best = set;
                size = Integer.bitCount(set);
            }
        }
        return best;
    }

    public int unknown(int what) throws IllegalArgumentException {
        needRange(what, 3);
        switch (what) {
            case 0: return Long.bitCount(clues.fitting);
            case 1: return clues.leastFace();
            case 2: return clues.sureMarks(false);
            default: return clues.sureMarks(true);
        }
    }

    public int hold(int what) throws IllegalArgumentException {
        needRange(what, 1);
        int best = NONE;
        int left = NONE;
        for (int p = 0; p < folk.size; p++) {
            if (clues.said[p] == NONE) {
                int worst = clues.worstBy(p);
                if (best == NONE || worst < left) {
                    best = p;
                    left = worst;
                }
            }
        }
        return what == 0 ? best : left;
    }

    public int papers() {
        carriers.match(now);
        return carriers.carried;
    }

    public int paper(int person) throws NoSuchElementException {
        needPerson(person);
        carriers.match(now);
        return carriers.plateOf[person];
    }

    public int bids(int k, int v, int w, int what) throws IllegalArgumentException {
        needRange(k, 9);
        needRange(v, 40);
        needRange(w, 40);
        needRange(what, 2);
        int rests = 0;
        int first = NONE;
        int together = NONE;
        for (int one = 0; one <= k; one++) {
            for (int other = 0; other <= k; other++) {
                if (rest(k, v, w, one, other)) {
                    rests++;
                    if (rests == 1) {
                        first = 10 * one + other;
                        together = firstHas(v, one, other) + secondHas(w, one, other);
                    }
                }
            }
        }
        return what == 0 ? rests : what == 1 ? first : together;
    }

    public int share(int person, int persons, int n) throws NoSuchElementException, IllegalArgumentException {
        needPerson(person);
        needBits(persons);
        needRange(n, 400);
        if ((persons >> person & 1) == 0) {
            return 0;
        }
        int bound = MOST_PRICE;
        while (bound > 0 && folk.givenBy(persons, bound) > n) {
            bound--;
        }
        return Math.min(folk.price[person], bound);
    }

    public int busiest(int what) throws IllegalArgumentException {
        needRange(what, 1);
        int best = NONE;
        int most = NONE;
        for (int p = 0; now.hanging > 0 && p < folk.size; p++) {
            int many = now.hangingBy(p);
            if (many > most) {
                best = p;
                most = many;
            }
        }
        return what == 0 ? best : most;
    }

    public int unseen() {
        int bits = 0;
        for (int p = 0; p < folk.size; p++) {
            if (now.took[p] == 0 && now.sat[p] == 0) {
                bits |= 1 << p;
            }
        }
        return bits;
    }

    public int where(int person) throws NoSuchElementException {
        needPerson(person);
        int bits = 0;
        for (int i = 0; i < now.hanging; i++) {
            if (folk.nearest(now.faceOn(i)) == person) {
                bits |= 1 << now.hallOf(i);
            }
        }
        return bits;
    }

    public int twins(int person) throws NoSuchElementException {
        needPerson(person);
        int bits = 0;
        for (int p = 0; p < folk.size; p++) {
            if (folk.alike(folk.face[p], folk.face[person])) {
                bits |= 1 << p;
            }
        }
        return bits;
    }

    public int chain(int a, int b) throws NoSuchElementException {
        needPerson(a);
        needPerson(b);
        takers.look(now);
        return takers.steps(a, b);
    }

    public int looks(int person, int what) throws NoSuchElementException, IllegalArgumentException {
        needPerson(person);
        needRange(what, 2);
        int many = 0;
        for (int i = 0; i < now.hanging; i++) {
            boolean counts = what == 0
                    || what == 1 && now.sitterOf(i) != person
                    || what == 2 && now.takerOf(i) != person;
            if (counts && folk.nearest(now.faceOn(i)) == person) {
                many++;
            }
        }
        return many;
    }

    public int cheapest(int persons, int what) throws IllegalArgumentException {
        needBits(persons);
        needRange(what, 1);
        takers.look(now);
        int set = takers.leastSet(persons, true);
        return what == 1 || set == NONE ? set : folk.priceOf(set);
    }

    public int common(int face) throws IllegalArgumentException {
        needRange(face, FACES - 1);
        int bits = 0;
        for (int p = 0; p < folk.size; p++) {
            if ((folk.face[p] & face) == face) {
                bits |= 1 << p;
            }
        }
        return bits;
    }

    public int moodFor(int a, int b) throws NoSuchElementException {
        needPerson(a);
        needPerson(b);
        for (int mood = 0; mood <= MOST_MOOD; mood++) {
            if (studio.hasAsHimself(now, a, b, mood)) {
                return mood;
            }
        }
        return NONE;
    }

    public int lost(int hall) throws NoSuchElementException {
        needHall(hall);
        return studio.hadBits(now, NONE) & ~studio.hadBits(now, hall);
    }

    public int faces(int person, int what) throws NoSuchElementException, IllegalArgumentException {
        needPerson(person);
        needRange(what, 2);
        long seen = 0L;
        int least = NONE;
        int greatest = NONE;
        for (int i = 0; i < now.hanging; i++) {
            if (now.takerOf(i) == person) {
                int face = now.faceOn(i);
                seen |= 1L << face;
                least = least == NONE ? face : Math.min(least, face);
                greatest = Math.max(greatest, face);
            }
        }
        return what == 0 ? Long.bitCount(seen) : what == 1 ? least : greatest;
    }

    public int years(int seed, int takes, int q, int what) throws IllegalArgumentException {
        needYears(takes, q);
        needRange(what, 3);
        passing.pass(now, seed, takes, q);
        switch (what) {
            case 0: return passing.state.hanging;
            case 1: return passing.undone;
            case 2: return passing.fires;
            default: return Integer.bitCount(studio.hadBits(passing.state, NONE));
        }
    }

    public int span(int seed, int many, int takes, int q, int what, int person) throws IllegalArgumentException {
        needArgument(many >= 1 && many <= MOST_SEEDS);
        needYears(takes, q);
        needRange(what, 2);
        needArgument(person >= 0 && person < folk.size);
        int fewestHang = MOST_PLATES;
        int mostHang = 0;
        int times = 0;
        for (int i = 0; i < many; i++) {
            passing.pass(now, seed + i, takes, q);
            fewestHang = Math.min(fewestHang, passing.state.hanging);
            mostHang = Math.max(mostHang, passing.state.hanging);
            times += studio.hadBits(passing.state, NONE) >> person & 1;
        }
        return what == 0 ? fewestHang : what == 1 ? mostHang : times;
    }

    public int image() {
        if (imageCount >= MOST_IMAGES) {
            return NONE;
        }
        images[imageCount] = new Kept(now, history);
        imageCount++;
        return imageCount;
    }

    public int restore() {
        if (imageCount <= 0 || imageCount > MOST_IMAGES) {
            return NONE;
        }
        Kept latest = images[imageCount - 1];
        if (latest == null) {
            return NONE;
        }
        imageCount--;
        now.copyFrom(latest.state);
        history = latest.below;
        refusedSteps = 0;
        return imageCount;
    }

    public int status(int what) {
        return what == 0 ? missingCalls : what == 1 ? wrongCalls : NONE;
    }

    public int count(int what) {
        switch (what) {
            case 0: return imageCount;
            case 1: return text.filled;
            case 2: return worksToUndo();
            default: return NONE;
        }
    }

    private int worksToUndo() {
        return history == null ? 0 : history.depth;
    }

    private void openText(int n, int most) {
        needArgument(n >= 0 && n <= text.filled && n <= most);
        text.open(n);
    }

    private void needPerson(int person) {
        needElement(person >= 0 && person < folk.size);
    }

    private void needHall(int hall) {
        needElement(hall >= 0 && hall < HALLS);
    }

    private void needRange(int number, int most) {
        needArgument(number >= 0 && number <= most);
    }

    private void needBits(int persons) {
        needArgument((persons & ~folk.everybody()) == 0);
    }

    private void needYears(int takes, int q) {
        needArgument(takes >= 1 && takes <= MOST_TAKES);
        needRange(q, ODDS);
    }

    private void needElement(boolean there) {
        if (!there) {
            missingCalls++;
            throw new NoSuchElementException("no such person, plate or hall");
        }
    }

    private void needArgument(boolean right) {
        if (!right) {
            wrongCalls++;
            throw new IllegalArgumentException("no such argument");
        }
    }

    private static int firstHas(int v, int one, int other) {
        return one >= other ? v - other : 0;
    }

    private static int secondHas(int w, int one, int other) {
        return other > one ? w - one : 0;
    }

    private static boolean rest(int k, int v, int w, int one, int other) {
        for (int bid = 0; bid <= k; bid++) {
            if (firstHas(v, bid, other) > firstHas(v, one, other)
                    || secondHas(w, one, bid) > secondHas(w, one, other)) {
                return false;
            }
        }
        return true;
    }

    /** The tape, and the text that is read from its first bytes. */
    private static final class Text {
        private static final int BLANK = 32;

        final byte[] bytes;
        int filled;
        int length;
        int place;
        int start;
        int faultKind;
        int faultPlace;

        Text() {
            bytes = new byte[TAPE_BYTES];
            faultPlace = NONE;
        }

        void add(int number) {
            for (int shift = 24; shift >= 0 && filled < bytes.length; shift -= 8) {
                bytes[filled] = (byte) (number >> shift);
                filled++;
            }
        }

        void open(int n) {
            length = Math.min(n, bytes.length);
            filled = 0;
            place = 0;
            start = 0;
            faultKind = 0;
            faultPlace = NONE;
        }

        int faultAnswer() {
            return faultKind - 10;
        }

        /** Always false, so that a reader can answer with it. */
        boolean fail(int kind, int at) {
            faultKind = kind;
            faultPlace = at;
            return false;
        }

        boolean atEnd() {
            skipBlanks();
            return place >= length;
        }

        boolean nextIs(int sign) {
            skipBlanks();
            return place < length && bytes[place] == sign;
        }

        boolean nextIsDigit() {
            skipBlanks();
            return place < length && isDigit(bytes[place]);
        }

        boolean accept(int sign) {
            boolean there = nextIs(sign);
            if (there) {
                place++;
            }
            return there;
        }

        boolean need(int sign) {
            skipBlanks();
            if (place >= length || bytes[place] != sign) {
                return fail(MISPLACED, place);
            }
            place++;
            return true;
        }

        /** The number there, or NONE and a fault; start is its first byte. */
        int number(int most) {
            skipBlanks();
            start = place;
            int value = 0;
            while (place < length && isDigit(bytes[place])) {
                // Any number of digits may stand there: what is far too great stays so and must not wrap.
                if (value < 10000) {
                    value = value * 10 + bytes[place] - '0';
                }
                place++;
            }
            if (place == start) {
                fail(MISPLACED, start);
                return NONE;
            }
            if (value > most) {
                fail(NO_SUCH_NUMBER, start);
                return NONE;
            }
            return value;
        }

        /** Which one of the known words stands there, or NONE and a fault; start is its first byte. */
        int word(String known) {
            skipBlanks();
            start = place;
            while (place < length && bytes[place] >= 'a' && bytes[place] <= 'z') {
                place++;
            }
            int index = 0;
            int from = 0;
            for (int i = 0; i <= known.length(); i++) {
                if (i == known.length() || known.charAt(i) == ' ') {
                    if (isSame(known, from, i)) {
                        return index;
                    }
                    index++;
                    from = i + 1;
                }
            }
            fail(MISPLACED, start);
            return NONE;
        }

        private boolean isSame(String known, int from, int to) {
            if (to - from != place - start) {
                return false;
            }
            for (int i = from; i < to; i++) {
                if (known.charAt(i) != bytes[start + i - from]) {
                    return false;
                }
            }
            return true;
        }

        private void skipBlanks() {
            while (place < length && bytes[place] == BLANK) {
                place++;
            }
        }

        private static boolean isDigit(int sign) {
            return sign >= '0' && sign <= '9';
        }
    }

    /** Persons as the town's text tells them. */
    private static final class Folk {
        final int[] face;
        final int[] temper;
        final int[] price;
        final int[] shy;
        int size;
        int alikeMost;

        Folk() {
            face = new int[MOST_PERSONS];
            temper = new int[MOST_PERSONS];
            price = new int[MOST_PERSONS];
            shy = new int[MOST_PERSONS];
            alikeMost = 1;
        }

        void copyFrom(Folk other) {
            System.arraycopy(other.face, 0, face, 0, MOST_PERSONS);
            System.arraycopy(other.temper, 0, temper, 0, MOST_PERSONS);
            System.arraycopy(other.price, 0, price, 0, MOST_PERSONS);
            System.arraycopy(other.shy, 0, shy, 0, MOST_PERSONS);
            size = other.size;
            alikeMost = other.alikeMost;
        }

        boolean read(Text text) {
            size = 0;
            alikeMost = 1;
            for (int clauses = 0; clauses <= MOST_CLAUSES && !text.atEnd(); clauses++) {
                if (!readClause(text, clauses)) {
                    return false;
                }
            }
            return true;
        }

        private boolean readClause(Text text, int clausesAhead) {
            int kind = text.word("person shy like");
            if (kind == NONE) {
                return false;
            }
            if (clausesAhead >= MOST_CLAUSES || kind == 0 && size >= MOST_PERSONS) {
                return text.fail(ONE_TOO_MANY, text.start);
            }
            boolean right = kind == 0 ? readPerson(text) : kind == 1 ? readShy(text) : readLike(text);
            return right && text.need(';');
        }

        private boolean readPerson(Text text) {
            int f = text.number(FACES - 1);
            int t = f == NONE ? NONE : text.number(9);
            int p = t == NONE ? NONE : text.number(MOST_PRICE);
            if (p == NONE || size >= MOST_PERSONS) {
                return false;
            }
            face[size] = f;
            temper[size] = t;
            price[size] = p;
            shy[size] = 0;
            size++;
            return true;
        }

        private boolean readShy(Text text) {
            int a = text.number(size - 1);
            int b = a == NONE ? NONE : text.number(size - 1);
            if (b == NONE) {
                return false;
            }
            shy[a] |= 1 << b;
            return true;
        }

        private boolean readLike(Text text) {
            int most = text.number(MARKS);
            if (most == NONE) {
                return false;
            }
            alikeMost = most;
            return true;
        }

        int everybody() {
            return (1 << size) - 1;
        }

        boolean alike(int one, int other) {
            return Integer.bitCount(one ^ other) <= alikeMost;
        }

        boolean never(int a, int b) {
            return (shy[a] >> b & 1) == 1;
        }

        int shyPairs() {
            int pairs = 0;
            for (int a = 0; a < size; a++) {
                pairs += Integer.bitCount(shy[a]);
            }
            return pairs;
        }

        int nearest(int shownFace) {
            int best = 0;
            for (int p = 1; p < size; p++) {
                if (Integer.bitCount(face[p] ^ shownFace) < Integer.bitCount(face[best] ^ shownFace)) {
                    best = p;
                }
            }
            return best;
        }

        int together(int set) {
            int marks = 0;
            for (int p = 0; p < size; p++) {
                if ((set >> p & 1) == 1) {
                    marks |= face[p];
                }
            }
            return marks;
        }

        int priceOf(int set) {
            return givenBy(set, MOST_PRICE);
        }

        int givenBy(int set, int bound) {
            int sum = 0;
            for (int p = 0; p < size; p++) {
                if ((set >> p & 1) == 1) {
                    sum += Math.min(price[p], bound);
                }
            }
            return sum;
        }
    }

    /** A law as a row of codes, what is joined ahead of what joins it. */
    private static final class Law {
        static final int FACE = 0;
        static final int TEMPER = 1;
        static final int MOOD = 2;
        static final int SITTER = 3;
        static final int OWN = 4;
        static final int YEAR = 5;
        static final int TAKEN = 6;
        static final int HALL = 7;
        static final int GIVEN = 8;

        private static final int MOST_NUMBER = 999;
        private static final int FIRST_GIVEN = 1000;
        private static final int PLUS = 2000;
        private static final int MINUS = 2001;
        private static final int TIMES = 2002;
        private static final int BY = 2003;
        private static final int LEFT = 2004;
        private static final int LEAST = 2005;
        private static final int MOST = 2006;
        /** Six may be open, each with at most three values that wait ahead of it. */
        private static final int STACK = 24;

        final int[] codes;
        final int[] stack;
        int length;

        Law() {
            codes = new int[LAW_BYTES];
            stack = new int[STACK];
            setUsual();
        }

        void setUsual() {
            length = 0;
            put(FIRST_GIVEN + FACE);
            put(FIRST_GIVEN + MOOD);
            put(PLUS);
        }

        void copyFrom(Law other) {
            System.arraycopy(other.codes, 0, codes, 0, LAW_BYTES);
            length = other.length;
        }

        private boolean put(int code) {
            if (length >= codes.length) {
                return false;
            }
            codes[length] = code;
            length++;
            return true;
        }

        boolean read(Text text) {
            length = 0;
            return readSum(text, 0) && (text.atEnd() || text.fail(MISPLACED, text.place));
        }

        private boolean readSum(Text text, int open) {
            boolean right = readProduct(text, open);
            for (int i = 0; right && i < LAW_BYTES; i++) {
                int join = text.accept('+') ? PLUS : text.accept('-') ? MINUS : NONE;
                if (join == NONE) {
                    return true;
                }
                right = readProduct(text, open) && put(join);
            }
            return right;
        }

        private boolean readProduct(Text text, int open) {
            boolean right = readUnit(text, open);
            for (int i = 0; right && i < LAW_BYTES; i++) {
                int join = text.accept('*') ? TIMES : text.accept('/') ? BY : text.accept('%') ? LEFT : NONE;
                if (join == NONE) {
                    return true;
                }
                right = readUnit(text, open) && put(join);
            }
            return right;
        }

        private boolean readUnit(Text text, int open) {
            if (text.nextIsDigit()) {
                int number = text.number(MOST_NUMBER);
                return number != NONE && put(number);
            }
            if (text.nextIs('(')) {
                return readBracket(text, open);
            }
            int word = text.word("face temper mood sitter own year taken hall least most");
            if (word == NONE) {
                return false;
            }
            return word < GIVEN ? put(FIRST_GIVEN + word) : readPair(text, open, word == GIVEN ? LEAST : MOST);
        }

        private boolean readBracket(Text text, int open) {
            if (open >= MOST_OPEN) {
                return text.fail(ONE_TOO_MANY, text.place);
            }
            return text.need('(') && readSum(text, open + 1) && text.need(')');
        }

        private boolean readPair(Text text, int open, int join) {
            if (open >= MOST_OPEN) {
                return text.fail(ONE_TOO_MANY, text.start);
            }
            return text.need('[') && readSum(text, open + 1)
                    && text.need(',') && readSum(text, open + 1)
                    && text.need(']') && put(join);
        }

        /** What comes out for these, as a face; 0 for a row of codes that no reader makes. */
        int faceFor(int[] given) {
            int top = 0;
            for (int i = 0; i < length; i++) {
                int code = codes[i];
                if (code >= PLUS) {
                    if (top < 2) {
                        return 0;
                    }
                    top--;
                    stack[top - 1] = joined(code, stack[top - 1], stack[top]);
                } else {
                    int index = code - FIRST_GIVEN;
                    if (top >= STACK || index >= given.length) {
                        return 0;
                    }
                    stack[top] = index >= 0 ? given[index] : code;
                    top++;
                }
            }
            return top == 1 ? Math.max(0, Math.min(FACES - 1, stack[0])) : 0;
        }

        private static int joined(int code, int one, int other) {
            switch (code) {
                case PLUS: return one + other;
                case MINUS: return one - other;
                case TIMES: return one * other;
                case BY: return other == 0 ? 0 : one / other;
                case LEFT: return other == 0 ? 0 : one % other;
                case LEAST: return one < other ? one : other;
                default: return one > other ? one : other;
            }
        }
    }

    /** All that work changes: the year, what persons did by now, and the plates that hang. */
    private static final class State {
        final int[] mood;
        final int[] took;
        final int[] sat;
        /** A plate is one number, as many states are kept: taker, sitter, hall, face and year, the lowest bits first. */
        final int[] plates;
        int hanging;
        int year;

        State() {
            mood = new int[MOST_PERSONS];
            took = new int[MOST_PERSONS];
            sat = new int[MOST_PERSONS];
            plates = new int[MOST_PLATES];
        }

        void clear() {
            for (int p = 0; p < MOST_PERSONS; p++) {
                mood[p] = 0;
                took[p] = 0;
                sat[p] = 0;
            }
            hanging = 0;
            year = 0;
        }

        void copyFrom(State other) {
            System.arraycopy(other.mood, 0, mood, 0, MOST_PERSONS);
            System.arraycopy(other.took, 0, took, 0, MOST_PERSONS);
            System.arraycopy(other.sat, 0, sat, 0, MOST_PERSONS);
            System.arraycopy(other.plates, 0, plates, 0, MOST_PLATES);
            hanging = other.hanging;
            year = other.year;
        }

        int takerOf(int plate) {
            return plates[plate] & 7;
        }

        int sitterOf(int plate) {
            return plates[plate] >> 3 & 7;
        }

        int hallOf(int plate) {
            return plates[plate] >> 6 & 7;
        }

        int faceOn(int plate) {
            return plates[plate] >> 9 & 63;
        }

        int yearOf(int plate) {
            return plates[plate] >> 15;
        }

        boolean isFull() {
            return hanging >= MOST_PLATES;
        }

        void hang(int a, int b, int hall, int shownFace) {
            if (isFull()) {
                return;
            }
            plates[hanging] = a | b << 3 | hall << 6 | shownFace << 9 | year << 15;
            hanging++;
            took[a]++;
            sat[b]++;
        }

        boolean burn(int hall) {
            int left = 0;
            for (int i = 0; i < hanging; i++) {
                if (hallOf(i) != hall) {
                    plates[left] = plates[i];
                    left++;
                }
            }
            boolean burned = left < hanging;
            hanging = left;
            return burned;
        }

        boolean setMood(int a, int wanted) {
            boolean other = mood[a] != wanted;
            mood[a] = wanted;
            return other;
        }

        void turnYear() {
            year++;
            for (int p = 0; p < MOST_PERSONS; p++) {
                mood[p] = 0;
            }
        }

        int everTaken() {
            int sum = 0;
            for (int p = 0; p < MOST_PERSONS; p++) {
                sum += took[p];
            }
            return sum;
        }

        int hangingBy(int a) {
            int many = 0;
            for (int i = 0; i < hanging; i++) {
                if (takerOf(i) == a) {
                    many++;
                }
            }
            return many;
        }
    }

    /** A state as it was, above the works that could be undone then: a work to undo, or an image. */
    private static final class Kept {
        final State state;
        final Kept below;
        final int depth;

        Kept(State from, Kept below) {
            state = new State();
            state.copyFrom(from);
            this.below = below;
            depth = below == null ? 1 : below.depth + 1;
        }
    }

    /** Steps as a work's text tells them, and their doing. */
    private static final class Work {
        private static final int TAKE = 0;
        private static final int MOOD = 1;
        private static final int BURN = 2;
        private static final int YEAR = 3;
        private static final int AGAIN = 4;
        /** No step is told in fewer than the five bytes of a year. */
        private static final int MOST_TOLD = WORK_BYTES / 5;

        final int[] kind;
        final int[] one;
        final int[] two;
        final int[] three;
        int length;
        int begun;
        int done;
        int refused;

        Work() {
            kind = new int[MOST_TOLD];
            one = new int[MOST_TOLD];
            two = new int[MOST_TOLD];
            three = new int[MOST_TOLD];
        }

        boolean read(Text text, int persons) {
            length = 0;
            begun = 0;
            done = 0;
            refused = 0;
            return readSteps(text, persons, 0);
        }

        private boolean readSteps(Text text, int persons, int open) {
            for (int i = 0; i <= MOST_TOLD; i++) {
                if (open > 0 ? text.nextIs(']') : text.atEnd()) {
                    return true;
                }
                if (!readStep(text, persons, open)) {
                    return false;
                }
            }
            return text.fail(MISPLACED, text.place);
        }

        private boolean readStep(Text text, int persons, int open) {
            int word = text.word("take mood burn year again");
            if (word == NONE) {
                return false;
            }
            if (word == AGAIN && open >= MOST_OPEN) {
                return text.fail(ONE_TOO_MANY, text.start);
            }
            if (length >= MOST_TOLD) {
                return text.fail(MISPLACED, text.length);
            }
            int step = length;
            kind[step] = word;
            length++;
            boolean right = word == AGAIN
                    ? readAgain(text, persons, open, step)
                    : readNumbers(text, persons, step);
            return right && text.need(';');
        }

        private boolean readNumbers(Text text, int persons, int step) {
            switch (kind[step]) {
                case TAKE:
                    one[step] = text.number(persons - 1);
                    two[step] = one[step] == NONE ? NONE : text.number(persons - 1);
                    three[step] = two[step] == NONE ? NONE : text.number(HALLS - 1);
                    return three[step] != NONE;
                case MOOD:
                    one[step] = text.number(persons - 1);
                    two[step] = one[step] == NONE ? NONE : text.number(MOST_MOOD);
                    return two[step] != NONE;
                case BURN:
                    one[step] = text.number(HALLS - 1);
                    return one[step] != NONE;
                default:
                    return true;
            }
        }

        /** Of an again, one is how often, two the step behind its bracket. */
        private boolean readAgain(Text text, int persons, int open, int step) {
            one[step] = text.number(30);
            boolean right = one[step] != NONE && text.need('[')
                    && readSteps(text, persons, open + 1) && text.need(']');
            two[step] = length;
            return right;
        }

        void perform(Studio studio, State state) {
            performSteps(studio, state, 0, length, 0);
        }

        /** Does the steps from one on to another that were read; open is how many agains these stand in. */
        private void performSteps(Studio studio, State state, int from, int to, int open) {
            for (int i = from; i < to && i < MOST_TOLD && begun < MOST_BEGUN; i++) {
                begun++;
                if (kind[i] != AGAIN) {
                    performStep(studio, state, i);
                } else if (open < MOST_OPEN) {
                    for (int time = 0; time < one[i] && begun < MOST_BEGUN; time++) {
                        performSteps(studio, state, i + 1, two[i], open + 1);
                    }
                    i = Math.max(i, two[i] - 1);
                }
            }
        }

        private void performStep(Studio studio, State state, int step) {
            boolean could;
            switch (kind[step]) {
                case TAKE:
                    could = studio.take(state, one[step], two[step], three[step]);
                    break;
                case MOOD:
                    could = state.setMood(one[step], two[step]);
                    break;
                case BURN:
                    could = state.burn(one[step]);
                    break;
                case YEAR:
                    could = state.year < LAST_YEAR;
                    if (could) {
                        state.turnYear();
                    }
                    break;
                default:
                    could = false;
                    break;
            }
            if (could) {
                done++;
            } else {
                refused++;
            }
        }
    }

    /** Persons under a law: what is shown when one takes another. */
    private static final class Studio {
        final Folk folk;
        final Law rule;
        final int[] given;

        Studio(Folk folk, Law rule) {
            this.folk = folk;
            this.rule = rule;
            given = new int[Law.GIVEN];
        }

        int faceBy(State state, int a, int b, int hall, int mood) {
            given[Law.FACE] = folk.face[a];
            given[Law.TEMPER] = folk.temper[a];
            given[Law.MOOD] = mood;
            given[Law.SITTER] = folk.face[b];
            given[Law.OWN] = a == b ? 1 : 0;
            given[Law.YEAR] = state.year;
            given[Law.TAKEN] = state.took[a];
            given[Law.HALL] = hall;
            return rule.faceFor(given);
        }

        boolean take(State state, int a, int b, int hall) {
            if (folk.never(a, b) || state.isFull()) {
                return false;
            }
            state.hang(a, b, hall, faceBy(state, a, b, hall, state.mood[a]));
            return true;
        }

        boolean hasAsHimself(State state, int a, int b, int mood) {
            return !folk.never(a, b) && folk.alike(faceBy(state, a, b, 0, mood), folk.face[b]);
        }

        int takersOf(State state, int b) {
            int bits = 0;
            for (int a = 0; a < folk.size; a++) {
                if (hasAsHimself(state, a, b, state.mood[a])) {
                    bits |= 1 << a;
                }
            }
            return bits;
        }

        int hadBits(State state, int hallLeftOut) {
            int bits = 0;
            for (int i = 0; i < state.hanging; i++) {
                int sitter = state.sitterOf(i);
                if (state.hallOf(i) != hallLeftOut && folk.alike(state.faceOn(i), folk.face[sitter])) {
                    bits |= 1 << sitter;
                }
            }
            return bits;
        }
    }

    /** Who can take whom as himself, all at once. */
    private static final class Takers {
        static final int LONGEST_RING = 5;

        final Studio studio;
        final Folk folk;
        final int[] by;
        final int[] row;
        int rings;
        int firstRing;

        Takers(Studio studio) {
            this.studio = studio;
            folk = studio.folk;
            by = new int[MOST_PERSONS];
            row = new int[LONGEST_RING];
        }

        void look(State state) {
            for (int b = 0; b < folk.size; b++) {
                by[b] = studio.takersOf(state, b);
            }
        }

        /** Of the sets that can take all told ones: the smallest or the cheapest, of alike ones the least bits. */
        int leastSet(int persons, boolean byPrice) {
            int best = NONE;
            int bestCost = 0;
            for (int set = 0; set <= folk.everybody(); set++) {
                int cost = byPrice ? folk.priceOf(set) : Integer.bitCount(set);
                if ((best == NONE || cost < bestCost) && takesAll(set, persons)) {
                    best = set;
                    bestCost = cost;
                }
            }
            return best;
        }

        private boolean takesAll(int set, int persons) {
            for (int b = 0; b < folk.size; b++) {
                if ((persons >> b & 1) == 1 && (by[b] & set) == 0) {
                    return false;
                }
            }
            return true;
        }

        void seekRings(int n) {
            rings = 0;
            firstRing = NONE;
            for (int p = 0; p < folk.size; p++) {
                row[0] = p;
                lengthen(n, 1, 1 << p);
            }
        }

        private void lengthen(int n, int filled, int used) {
            if (filled < 1 || filled > LONGEST_RING) {
                return;
            }
            int last = row[filled - 1];
            if (filled >= n) {
                closeRing(n, last);
                return;
            }
            for (int p = row[0] + 1; p < folk.size; p++) {
                if ((used >> p & 1) == 0 && (by[p] >> last & 1) == 1) {
                    row[filled] = p;
                    lengthen(n, filled + 1, used | 1 << p);
                }
            }
        }

        private void closeRing(int n, int last) {
            if ((by[row[0]] >> last & 1) == 0) {
                return;
            }
            rings++;
            if (rings == 1) {
                firstRing = 0;
                for (int i = 0; i < n; i++) {
                    firstRing = firstRing * 10 + row[i];
                }
            }
        }

        int steps(int a, int b) {
            int reached = 1 << a;
            for (int steps = 0; steps < folk.size; steps++) {
                if ((reached >> b & 1) == 1) {
                    return steps;
                }
                reached |= nextTo(reached);
            }
            return NONE;
        }

        private int nextTo(int reached) {
            int bits = 0;
            for (int p = 0; p < folk.size; p++) {
                if ((by[p] & reached) != 0) {
                    bits |= 1 << p;
                }
            }
            return bits;
        }
    }

    /** What is said of a face that nobody took. */
    private static final class Clues {
        final Folk folk;
        final int[] said;
        final int[] draft;
        final int[] tally;
        int lines;
        /** A bit for each face by which all that is said is right. */
        long fitting;

        Clues(Folk folk) {
            this.folk = folk;
            said = new int[MOST_PERSONS];
            draft = new int[MOST_PERSONS];
            tally = new int[MARKS + 1];
            clear();
        }

        void clear() {
            for (int p = 0; p < MOST_PERSONS; p++) {
                said[p] = NONE;
            }
            lines = 0;
            fitting = -1L;
        }

        boolean read(Text text) {
            for (int p = 0; p < MOST_PERSONS; p++) {
                draft[p] = NONE;
            }
            int read = 0;
            // A line beyond the persons there are names one twice, or none, and its fault ends the loop.
            while (read <= MOST_PERSONS && !text.atEnd()) {
                if (!readLine(text)) {
                    return false;
                }
                read++;
            }
            System.arraycopy(draft, 0, said, 0, MOST_PERSONS);
            lines = read;
            fitting = 0L;
            for (int face = 0; face < FACES; face++) {
                if (agrees(face)) {
                    fitting |= 1L << face;
                }
            }
            return true;
        }

        private boolean readLine(Text text) {
            int person = text.number(folk.size - 1);
            if (person == NONE) {
                return false;
            }
            if (draft[person] != NONE) {
                return text.fail(NO_SUCH_NUMBER, text.start);
            }
            draft[person] = text.number(MARKS);
            return draft[person] != NONE && text.need(';');
        }

        private int inCommon(int person, int face) {
            return MARKS - Integer.bitCount(folk.face[person] ^ face);
        }

        private boolean agrees(int face) {
            for (int p = 0; p < folk.size; p++) {
                if (said[p] != NONE && said[p] != inCommon(p, face)) {
                    return false;
                }
            }
            return true;
        }

        boolean fits(int face) {
            return (fitting >> face & 1L) == 1L;
        }

        int leastFace() {
            for (int face = 0; face < FACES; face++) {
                if (fits(face)) {
                    return face;
                }
            }
            return NONE;
        }

        /** Marks that all fitting faces have or, turned, that none of them has. */
        int sureMarks(boolean turned) {
            int marks = fitting == 0L ? 0 : FACES - 1;
            for (int face = 0; face < FACES; face++) {
                if (fits(face)) {
                    marks &= turned ? ~face : face;
                }
            }
            return marks;
        }

        int worstBy(int person) {
            for (int i = 0; i <= MARKS; i++) {
                tally[i] = 0;
            }
            int worst = 0;
            for (int face = 0; face < FACES; face++) {
                if (fits(face)) {
                    int alike = inCommon(person, face);
                    tally[alike]++;
                    worst = Math.max(worst, tally[alike]);
                }
            }
            return worst;
        }
    }

    /** The first plates as papers: who carries which, so that most are carried. */
    private static final class Carriers {
        final Folk folk;
        final int[] plateOf;
        final int[] may;
        final int[] holder;
        int carried;
        private int tried;

        Carriers(Folk folk) {
            this.folk = folk;
            plateOf = new int[MOST_PERSONS];
            may = new int[MOST_PERSONS];
            holder = new int[PAPER_PLATES];
        }

        void match(State state) {
            int plates = Math.min(PAPER_PLATES, state.hanging);
            for (int p = 0; p < folk.size; p++) {
                may[p] = mayCarry(state, plates, p);
            }
            int free = (1 << plates) - 1;
            carried = mostFrom(0, free);
            int left = carried;
            for (int p = 0; p < folk.size; p++) {
                plateOf[p] = firstFor(p, free, left);
                if (plateOf[p] != NONE) {
                    free &= ~(1 << plateOf[p]);
                    left--;
                }
            }
        }

        private int mayCarry(State state, int plates, int p) {
            int bits = 0;
            for (int i = 0; i < plates; i++) {
                if (folk.alike(folk.face[p], state.faceOn(i))) {
                    bits |= 1 << i;
                }
            }
            return bits;
        }

        /** The first plate with which he and those behind him still carry as many as they can. */
        private int firstFor(int p, int free, int left) {
            for (int i = 0; i < PAPER_PLATES; i++) {
                if ((may[p] & free & 1 << i) != 0 && 1 + mostFrom(p + 1, free & ~(1 << i)) == left) {
                    return i;
                }
            }
            return NONE;
        }

        private int mostFrom(int first, int free) {
            for (int i = 0; i < PAPER_PLATES; i++) {
                holder[i] = NONE;
            }
            int many = 0;
            for (int p = first; p < folk.size; p++) {
                tried = ~free;
                if (findPlate(p, 0)) {
                    many++;
                }
            }
            return many;
        }

        /** Gives him a plate, others moving on to other plates if need be; each is tried once, so it goes no deeper than there are plates. */
        private boolean findPlate(int p, int depth) {
            for (int i = 0; i < PAPER_PLATES && depth <= PAPER_PLATES; i++) {
                if ((may[p] & ~tried & 1 << i) != 0) {
                    tried |= 1 << i;
                    if (holder[i] == NONE || findPlate(holder[i], depth + 1)) {
                        holder[i] = p;
                        return true;
                    }
                }
            }
            return false;
        }
    }

    /** Years that pass by the draws of a seed, on a state of their own. */
    private static final class Years {
        final Studio studio;
        final State state;
        int seed;
        int undone;
        int fires;

        Years(Studio studio) {
            this.studio = studio;
            state = new State();
        }

        void pass(State from, int firstSeed, int takes, int q) {
            state.copyFrom(from);
            seed = firstSeed;
            undone = 0;
            fires = 0;
            if (studio.folk.size == 0) {
                return;
            }
            for (int i = 1; i <= takes; i++) {
                passTake(q);
                if (i % 4 == 0) {
                    state.turnYear();
                }
            }
        }

        private void passTake(int q) {
            int a = draw(studio.folk.size);
            int b = draw(studio.folk.size);
            int hall = draw(HALLS);
            if (!studio.take(state, a, b, hall)) {
                undone++;
            }
            if (draw(ODDS) < q && state.burn(hall)) {
                fires++;
            }
        }

        private int draw(int by) {
            seed = seed * 1103515245 + 12345;
            int bits = seed >>> 16 & 32767;
            return by <= 0 ? 0 : bits % by;
        }
    }
}
