import java.util.ArrayDeque;
import java.util.ArrayList;
import java.util.Arrays;
import java.util.Deque;
import java.util.List;
import java.util.NoSuchElementException;
import java.util.TreeSet;

/** The document written a second time, by lists and by trying everything, to hold TakerTown against. */
public final class Model {
    static final class Fault extends RuntimeException {
        private static final long serialVersionUID = 1L;
        final int kind;
        final int place;

        Fault(int kind, int place) {
            this.kind = kind;
            this.place = place;
        }
    }

    record Token(char kind, String text, int place) { }

    record Person(int face, int temper, int price, TreeSet<Integer> shy) { }

    record Plate(int taker, int sitter, int hall, int shown, int year) { }

    interface Value { int of(int[] given); }

    interface Step { void go(Running running); }

    static final class Scene {
        final List<Plate> plates = new ArrayList<>();
        final int[] mood = new int[8];
        final int[] took = new int[8];
        final int[] sat = new int[8];
        int year;
        int burned;

        Scene copy() {
            Scene s = new Scene();
            s.plates.addAll(plates);
            for (int i = 0; i < 8; i++) {
                s.mood[i] = mood[i];
                s.took[i] = took[i];
                s.sat[i] = sat[i];
            }
            s.year = year;
            s.burned = burned;
            return s;
        }
    }

    record Image(Scene scene, List<Scene> works) { }

    final class Running {
        int begun;
        int done;
        int refused;

        void simple(boolean could) {
            if (could) done++; else refused++;
        }
    }

    private static final String[] GIVEN = {"face", "temper", "mood", "sitter", "own", "year", "taken", "hall"};

    private final ArrayList<Integer> tape = new ArrayList<>();
    private List<Person> persons = new ArrayList<>();
    private int like = 1;
    private Value law = usual();
    private final int[] said = {-1, -1, -1, -1, -1, -1, -1, -1};
    private Scene scene = new Scene();
    private final ArrayList<Scene> works = new ArrayList<>();
    private final ArrayList<Image> images = new ArrayList<>();
    private int refused;
    private int faultPlace = -1;
    private int missing;
    private int wrong;

    private List<Token> tokens;
    private int at;

    private static Value usual() {
        return g -> g[0] + g[2];
    }

    // ---- texts

    private void open(int n, int most) {
        iae(n < 0 || n > tape.size() || n > most);
        StringBuilder s = new StringBuilder();
        for (int i = 0; i < n; i++) s.append((char) (int) tape.get(i));
        tape.clear();
        faultPlace = -1;
        tokens = split(s.toString());
        at = 0;
    }

    private static List<Token> split(String s) {
        List<Token> list = new ArrayList<>();
        int i = 0;
        while (i < s.length()) {
            char c = s.charAt(i);
            int from = i;
            if (c == ' ') { i++; continue; }
            if (c >= '0' && c <= '9') {
                while (i < s.length() && s.charAt(i) >= '0' && s.charAt(i) <= '9') i++;
                list.add(new Token('n', s.substring(from, i), from));
            } else if (c >= 'a' && c <= 'z') {
                while (i < s.length() && s.charAt(i) >= 'a' && s.charAt(i) <= 'z') i++;
                list.add(new Token('w', s.substring(from, i), from));
            } else {
                i++;
                list.add(new Token(c, "" + c, from));
            }
        }
        list.add(new Token('e', "", s.length()));
        return list;
    }

    private Token now() { return tokens.get(at); }

    private boolean is(char kind) { return now().kind() == kind; }

    private void eat(char kind) {
        // 'e', 'n' and 'w' are kinds of tokens; a sign's kind is the sign itself, never a letter.
        if (!is(kind)) throw new Fault(1, now().place());
        at++;
    }

    private int number(int most) {
        Token t = now();
        eat('n');
        java.math.BigInteger v = new java.math.BigInteger(t.text());
        if (v.compareTo(java.math.BigInteger.valueOf(most)) > 0) throw new Fault(2, t.place());
        return v.intValue();
    }

    private int faulted(Fault f) {
        faultPlace = f.place;
        return f.kind - 10;
    }

    public int feed(int a, int b, int c, int d, int e) {
        if (tape.size() + 20 > 600) return -1;
        for (int n : new int[] {a, b, c, d, e}) {
            for (byte x : java.nio.ByteBuffer.allocate(4).putInt(n).array()) tape.add(x & 255);
        }
        return tape.size();
    }

    public int town(int n) {
        open(n, 600);
        List<Person> people = new ArrayList<>();
        int k = 1;
        try {
            for (int clauses = 0; !is('e'); clauses++) {
                Token word = now();
                eat('w');
                if (!List.of("person", "shy", "like").contains(word.text())) throw new Fault(1, word.place());
                if (clauses == 60) throw new Fault(3, word.place());
                if (word.text().equals("person")) {
                    if (people.size() == 8) throw new Fault(3, word.place());
                    int f = number(63);
                    int t = number(9);
                    people.add(new Person(f, t, number(40), new TreeSet<>()));
                } else if (word.text().equals("shy")) {
                    int a = number(people.size() - 1);
                    people.get(a).shy().add(number(people.size() - 1));
                } else {
                    k = number(6);
                }
                eat(';');
            }
        } catch (Fault f) {
            return faulted(f);
        }
        persons = people;
        like = k;
        law = usual();
        Arrays.fill(said, -1);
        scene = new Scene();
        works.clear();
        images.clear();
        refused = 0;
        return persons.size();
    }

    public int law(int n) {
        open(n, 150);
        try {
            Value v = sum(0);
            if (!is('e')) throw new Fault(1, now().place());
            law = v;
            return 1;
        } catch (Fault f) {
            return faulted(f);
        }
    }

    private Value sum(int open) {
        Value left = product(open);
        while (is('+') || is('-')) {
            boolean plus = is('+');
            at++;
            Value one = left;
            Value two = product(open);
            left = plus ? g -> one.of(g) + two.of(g) : g -> one.of(g) - two.of(g);
        }
        return left;
    }

    private Value product(int open) {
        Value left = unit(open);
        while (is('*') || is('/') || is('%')) {
            char op = now().kind();
            at++;
            Value one = left;
            Value two = unit(open);
            left = g -> {
                long a = one.of(g);
                long b = two.of(g);
                return (int) (op == '*' ? a * b : b == 0 ? 0 : op == '/' ? a / b : a % b);
            };
        }
        return left;
    }

    private Value unit(int open) {
        Token t = now();
        if (is('n')) {
            int v = number(999);
            return g -> v;
        }
        if (is('(')) {
            if (open == 6) throw new Fault(3, t.place());
            at++;
            Value v = sum(open + 1);
            eat(')');
            return v;
        }
        eat('w');
        int index = Arrays.asList(GIVEN).indexOf(t.text());
        if (index >= 0) return g -> g[index];
        boolean least = t.text().equals("least");
        if (!least && !t.text().equals("most")) throw new Fault(1, t.place());
        if (open == 6) throw new Fault(3, t.place());
        eat('[');
        Value one = sum(open + 1);
        eat(',');
        Value two = sum(open + 1);
        eat(']');
        return g -> least ? Math.min(one.of(g), two.of(g)) : Math.max(one.of(g), two.of(g));
    }

    public int work(int n) {
        open(n, 150);
        if (works.size() == 16) return -20;
        List<Step> steps;
        try {
            steps = steps(0);
        } catch (Fault f) {
            return faulted(f);
        }
        works.add(scene.copy());
        Running r = new Running();
        for (Step s : steps) s.go(r);
        refused = r.refused;
        return r.done;
    }

    private List<Step> steps(int open) {
        List<Step> list = new ArrayList<>();
        while (!(open == 0 ? is('e') : is(']'))) {
            Step s = step(open);
            eat(';');
            list.add(r -> {
                if (r.begun < 200) {
                    r.begun++;
                    s.go(r);
                }
            });
        }
        return list;
    }

    private Step step(int open) {
        Token word = now();
        eat('w');
        int all = persons.size() - 1;
        switch (word.text()) {
            case "take": {
                int a = number(all);
                int b = number(all);
                int h = number(5);
                return r -> r.simple(take(scene, a, b, h));
            }
            case "mood": {
                int a = number(all);
                int m = number(9);
                return r -> {
                    r.simple(scene.mood[a] != m);
                    scene.mood[a] = m;
                };
            }
            case "burn": {
                int h = number(5);
                return r -> r.simple(burn(scene, h));
            }
            case "year":
                return r -> {
                    r.simple(scene.year < 200);
                    if (scene.year < 200) turn(scene);
                };
            case "again": {
                if (open == 6) throw new Fault(3, word.place());
                int times = number(30);
                eat('[');
                List<Step> body = steps(open + 1);
                eat(']');
                return r -> {
                    for (int i = 0; i < times && r.begun < 200; i++) for (Step s : body) s.go(r);
                };
            }
            default:
                throw new Fault(1, word.place());
        }
    }

    private boolean never(int a, int b) { return persons.get(a).shy().contains(b); }

    private boolean take(Scene s, int a, int b, int h) {
        if (never(a, b) || s.plates.size() == 40) return false;
        s.plates.add(new Plate(a, b, h, show(s, a, b, h, s.mood[a]), s.year));
        s.took[a]++;
        s.sat[b]++;
        return true;
    }

    private static boolean burn(Scene s, int h) {
        int was = s.plates.size();
        s.plates.removeIf(p -> p.hall() == h);
        s.burned += was - s.plates.size();
        return s.plates.size() < was;
    }

    private static void turn(Scene s) {
        s.year++;
        Arrays.fill(s.mood, 0);
    }

    private int show(Scene s, int a, int b, int h, int mood) {
        return clamp(law.of(new int[] {persons.get(a).face(), persons.get(a).temper(), mood, persons.get(b).face(),
            a == b ? 1 : 0, s.year, s.took[a], h}));
    }

    private static int clamp(int v) { return v < 0 ? 0 : v > 63 ? 63 : v; }

    public int words(int n) {
        open(n, 60);
        int[] lines = {-1, -1, -1, -1, -1, -1, -1, -1};
        int many = 0;
        try {
            while (!is('e')) {
                int place = now().place();
                int a = number(persons.size() - 1);
                if (lines[a] >= 0) throw new Fault(2, place);
                lines[a] = number(6);
                eat(';');
                many++;
            }
        } catch (Fault f) {
            return faulted(f);
        }
        System.arraycopy(lines, 0, said, 0, 8);
        return many;
    }

    public int fault() { return faultPlace; }

    public int undo() {
        if (works.isEmpty()) return -1;
        scene = works.remove(works.size() - 1);
        refused = 0;
        return works.size();
    }

    public int image() {
        if (images.size() == 3) return -1;
        List<Scene> kept = new ArrayList<>();
        for (Scene s : works) kept.add(s.copy());
        images.add(new Image(scene.copy(), kept));
        return images.size();
    }

    public int restore() {
        if (images.isEmpty()) return -1;
        Image i = images.remove(images.size() - 1);
        scene = i.scene();
        works.clear();
        works.addAll(i.works());
        refused = 0;
        return images.size();
    }

    public int status(int what) { return what == 0 ? missing : what == 1 ? wrong : -1; }

    public int count(int what) {
        return what == 0 ? images.size() : what == 1 ? tape.size() : what == 2 ? works.size() : -1;
    }

    // ---- refusals

    private void iae(boolean bad) {
        if (bad) {
            wrong++;
            throw new IllegalArgumentException();
        }
    }

    private void nse(boolean bad) {
        if (bad) {
            missing++;
            throw new NoSuchElementException();
        }
    }

    private void isPerson(int p) { nse(p < 0 || p >= persons.size()); }

    private void isHall(int h) { nse(h < 0 || h > 5); }

    private void in(int v, int from, int to) { iae(v < from || v > to); }

    private void areBits(int bits) { iae(bits < 0 || bits >= 1 << persons.size()); }

    // ---- what is told

    public int told(int what) {
        in(what, 0, 8);
        int lines = 0;
        for (int s : said) if (s >= 0) lines++;
        int pairs = 0;
        for (Person p : persons) pairs += p.shy().size();
        return new int[] {persons.size(), scene.plates.size(), scene.year, like, lines, refused,
            scene.plates.size() + scene.burned, scene.burned, pairs}[what];
    }

    public int person(int p, int what) {
        isPerson(p);
        in(what, 0, 6);
        int bits = 0;
        for (int b : persons.get(p).shy()) bits += 1 << b;
        return new int[] {persons.get(p).face(), persons.get(p).temper(), persons.get(p).price(), scene.mood[p],
            scene.took[p], scene.sat[p], bits}[what];
    }

    public int plate(int i, int what) {
        nse(i < 0 || i >= scene.plates.size());
        in(what, 0, 5);
        Plate p = scene.plates.get(i);
        return new int[] {p.taker(), p.sitter(), p.hall(), p.shown(), p.year(), looksLike(p)}[what];
    }

    private int looksLike(Plate p) {
        for (int far = 0; far <= 6; far++) {
            for (int i = 0; i < persons.size(); i++) if (marks(persons.get(i).face(), p.shown()) == far) return i;
        }
        return -1;
    }

    private static int marks(int a, int b) {
        int n = 0;
        for (int m = 1; m < 64; m *= 2) if ((a / m) % 2 != (b / m) % 2) n++;
        return n;
    }

    public int hall(int h, int what) {
        isHall(h);
        in(what, 0, 3);
        TreeSet<Integer> set = new TreeSet<>();
        int many = 0;
        for (Plate p : scene.plates) {
            if (p.hall() == h) {
                many++;
                set.add(what == 1 ? p.taker() : what == 2 ? p.sitter() : looksLike(p));
            }
        }
        return what == 0 ? many : bits(set);
    }

    private static int bits(Iterable<Integer> set) {
        int bits = 0;
        for (int i : set) bits |= 1 << i;
        return bits;
    }

    public int shown(int a, int b, int h) {
        isPerson(a);
        isPerson(b);
        isHall(h);
        return show(scene, a, b, h, scene.mood[a]);
    }

    public int would(int face, int temper, int mood, int sitter, int own, int year, int taken, int hall) {
        int[] given = {face, temper, mood, sitter, own, year, taken, hall};
        int[] most = {63, 9, 9, 63, 1, 200, 999, 5};
        for (int i = 0; i < 8; i++) in(given[i], 0, most[i]);
        return clamp(law.of(given));
    }

    public int unlike(int a, int b) {
        in(a, 0, 63);
        in(b, 0, 63);
        return marks(a, b);
    }

    private boolean alike(int a, int b) { return marks(a, b) <= like; }

    private TreeSet<Integer> hadBy(Scene s) {
        TreeSet<Integer> set = new TreeSet<>();
        for (Plate p : s.plates) if (alike(p.shown(), persons.get(p.sitter()).face())) set.add(p.sitter());
        return set;
    }

    public int had() { return bits(hadBy(scene)); }

    public int mistaken() {
        for (Plate p : scene.plates) if (looksLike(p) != p.sitter()) return scene.plates.indexOf(p);
        return -1;
    }

    private boolean in(int a, int b) {
        return !never(a, b) && alike(show(scene, a, b, 0, scene.mood[a]), persons.get(b).face());
    }

    public int can(int b) {
        isPerson(b);
        int bits = 0;
        for (int a = 0; a < persons.size(); a++) if (in(a, b)) bits |= 1 << a;
        return bits;
    }

    private int best(int told, boolean byPrice) {
        int best = -1;
        int cost = 0;
        for (int set = (1 << persons.size()) - 1; set >= 0; set--) {
            boolean all = true;
            for (int b = 0; b < persons.size(); b++) {
                boolean one = (told & 1 << b) == 0;
                for (int a = 0; a < persons.size(); a++) one |= (set & 1 << a) != 0 && in(a, b);
                all &= one;
            }
            int c = 0;
            for (int a = 0; a < persons.size(); a++) {
                if ((set & 1 << a) != 0) c += byPrice ? persons.get(a).price() : 1;
            }
            if (all && (best < 0 || c <= cost)) {
                best = set;
                cost = c;
            }
        }
        bestCost = cost;
        return best;
    }

    private int bestCost;

    public int fewest(int told) {
        areBits(told);
        return best(told, false);
    }

    public int cheapest(int told, int what) {
        areBits(told);
        in(what, 0, 1);
        int set = best(told, true);
        return what == 1 || set < 0 ? set : bestCost;
    }

    public int nobody(int told) {
        areBits(told);
        for (int b = 0; b < persons.size(); b++) if ((told & 1 << b) != 0 && can(b) == 0) return b;
        return -1;
    }

    public int ring(int n, int what) {
        in(n, 2, 5);
        in(what, 0, 1);
        int many = 0;
        int first = -1;
        int rows = (int) Math.pow(8, n);
        boolean[][] may = new boolean[8][8];
        for (int a = 0; a < persons.size(); a++) for (int b = 0; b < persons.size(); b++) may[a][b] = in(a, b);
        for (int r = 0; r < rows; r++) {
            int[] row = new int[n];
            for (int i = n - 1, v = r; i >= 0; i--, v /= 8) row[i] = v % 8;
            boolean right = true;
            for (int i = 0; i < n && right; i++) {
                right = row[i] < persons.size() && (i == 0 || row[i] > row[0]) && may[row[i]][row[(i + 1) % n]];
                for (int j = 0; j < i; j++) right &= row[j] != row[i];
            }
            if (right) {
                many++;
                int digits = 0;
                for (int i : row) digits = digits * 10 + i;
                if (many == 1) first = digits;
            }
        }
        return what == 0 ? many : first;
    }

    public int who(int s, int b) {
        isPerson(b);
        in(s, 0, 63);
        int bits = 0;
        for (int a = 0; a < persons.size(); a++) {
            if (!never(a, b) && show(scene, a, b, 0, scene.mood[a]) == s) bits |= 1 << a;
        }
        return bits;
    }

    public int made(int s) {
        in(s, 0, 63);
        for (int many = 0; many <= persons.size(); many++) {
            for (int set = 0; set < 1 << persons.size(); set++) {
                int face = 0;
                for (int p = 0; p < persons.size(); p++) if ((set & 1 << p) != 0) face |= persons.get(p).face();
                if (Integer.bitCount(set) == many && face == s) return set;
            }
        }
        return -1;
    }

    private List<Integer> possible(int person, int n) {
        List<Integer> list = new ArrayList<>();
        for (int f = 0; f < 64; f++) {
            boolean right = person < 0 || 6 - marks(f, persons.get(person).face()) == n;
            for (int p = 0; p < persons.size(); p++) {
                right &= said[p] < 0 || 6 - marks(f, persons.get(p).face()) == said[p];
            }
            if (right) list.add(f);
        }
        return list;
    }

    public int unknown(int what) {
        in(what, 0, 3);
        List<Integer> list = possible(-1, 0);
        if (what == 0) return list.size();
        if (what == 1) return list.isEmpty() ? -1 : list.get(0);
        int bits = 0;
        for (int m = 0; m < 6; m++) {
            int mark = m;
            boolean all = what == 2
                ? list.stream().allMatch(f -> (f & 1 << mark) != 0)
                : list.stream().noneMatch(f -> (f & 1 << mark) != 0);
            if (all && !list.isEmpty()) bits |= 1 << m;
        }
        return bits;
    }

    public int hold(int what) {
        in(what, 0, 1);
        int best = -1;
        int left = 1000;
        for (int p = 0; p < persons.size(); p++) {
            if (said[p] >= 0) continue;
            int worst = 0;
            for (int n = 0; n <= 6; n++) worst = Math.max(worst, possible(p, n).size());
            if (worst < left) {
                best = p;
                left = worst;
            }
        }
        return best < 0 ? -1 : what == 0 ? best : left;
    }

    private int[] bestWay;
    private int bestMany;

    private void ways(int p, int[] way, int used, int many) {
        if (many + persons.size() - p <= bestMany && bestWay != null) return;
        if (p == persons.size()) {
            bestWay = way.clone();
            bestMany = many;
            return;
        }
        for (int i = 0; i < Math.min(8, scene.plates.size()); i++) {
            if ((used & 1 << i) == 0 && alike(persons.get(p).face(), scene.plates.get(i).shown())) {
                way[p] = i;
                ways(p + 1, way, used | 1 << i, many + 1);
            }
        }
        way[p] = -1;
        ways(p + 1, way, used, many);
    }

    public int papers() {
        bestWay = null;
        bestMany = 0;
        ways(0, new int[persons.size()], 0, 0);
        return bestMany;
    }

    public int paper(int p) {
        isPerson(p);
        papers();
        return bestWay[p];
    }

    private static int[] pay(int v, int w, int a, int b) {
        return a >= b ? new int[] {v - b, 0} : new int[] {0, w - a};
    }

    public int bids(int k, int v, int w, int what) {
        in(k, 0, 9);
        in(v, 0, 40);
        in(w, 0, 40);
        in(what, 0, 2);
        List<int[]> rests = new ArrayList<>();
        for (int a = 0; a <= k; a++) {
            for (int b = 0; b <= k; b++) {
                int bestA = -1000;
                int bestB = -1000;
                for (int o = 0; o <= k; o++) {
                    bestA = Math.max(bestA, pay(v, w, o, b)[0]);
                    bestB = Math.max(bestB, pay(v, w, a, o)[1]);
                }
                int[] has = pay(v, w, a, b);
                if (has[0] == bestA && has[1] == bestB) rests.add(new int[] {10 * a + b, has[0] + has[1]});
            }
        }
        return what == 0 ? rests.size() : rests.get(0)[what - 1];
    }

    public int share(int p, int told, int n) {
        isPerson(p);
        areBits(told);
        in(n, 0, 400);
        int[] has = new int[8];
        boolean goesOn = true;
        for (int given = 0; goesOn;) {
            int more = 0;
            for (int i = 0; i < persons.size(); i++) {
                if ((told & 1 << i) != 0 && has[i] < persons.get(i).price()) more++;
            }
            goesOn = more > 0 && given + more <= n;
            for (int i = 0; i < persons.size() && goesOn; i++) {
                if ((told & 1 << i) != 0 && has[i] < persons.get(i).price()) has[i]++;
            }
            given += more;
        }
        return has[p];
    }

    public int busiest(int what) {
        in(what, 0, 1);
        int[] many = new int[8];
        for (Plate p : scene.plates) many[p.taker()]++;
        int best = 0;
        for (int i = 7; i >= 0; i--) if (many[i] >= many[best]) best = i;
        return many[best] == 0 ? -1 : what == 0 ? best : many[best];
    }

    public int unseen() {
        int bits = 0;
        for (int p = 0; p < persons.size(); p++) if (scene.took[p] + scene.sat[p] == 0) bits |= 1 << p;
        return bits;
    }

    public int where(int p) {
        isPerson(p);
        TreeSet<Integer> halls = new TreeSet<>();
        for (Plate x : scene.plates) if (looksLike(x) == p) halls.add(x.hall());
        return bits(halls);
    }

    public int twins(int p) {
        isPerson(p);
        int bits = 0;
        for (int i = 0; i < persons.size(); i++) if (alike(persons.get(i).face(), persons.get(p).face())) bits |= 1 << i;
        return bits;
    }

    public int chain(int a, int b) {
        isPerson(a);
        isPerson(b);
        int[] far = new int[8];
        Arrays.fill(far, -1);
        Deque<Integer> queue = new ArrayDeque<>();
        far[a] = 0;
        queue.add(a);
        while (!queue.isEmpty()) {
            int x = queue.poll();
            for (int y = 0; y < persons.size(); y++) {
                if (far[y] < 0 && in(x, y)) {
                    far[y] = far[x] + 1;
                    queue.add(y);
                }
            }
        }
        return far[b];
    }

    public int looks(int p, int what) {
        isPerson(p);
        in(what, 0, 2);
        int[] many = new int[3];
        for (Plate x : scene.plates) {
            if (looksLike(x) == p) {
                many[0]++;
                if (x.sitter() != p) many[1]++;
                if (x.taker() != p) many[2]++;
            }
        }
        return many[what];
    }

    public int common(int face) {
        in(face, 0, 63);
        int bits = 0;
        for (int p = 0; p < persons.size(); p++) if ((persons.get(p).face() | face) == persons.get(p).face()) bits |= 1 << p;
        return bits;
    }

    public int moodFor(int a, int b) {
        isPerson(a);
        isPerson(b);
        int was = scene.mood[a];
        int found = -1;
        for (int m = 9; m >= 0; m--) {
            scene.mood[a] = m;
            if (in(a, b)) found = m;
        }
        scene.mood[a] = was;
        return found;
    }

    public int lost(int h) {
        isHall(h);
        Scene s = scene.copy();
        burn(s, h);
        TreeSet<Integer> set = hadBy(scene);
        set.removeAll(hadBy(s));
        return bits(set);
    }

    public int faces(int p, int what) {
        isPerson(p);
        in(what, 0, 2);
        TreeSet<Integer> set = new TreeSet<>();
        for (Plate x : scene.plates) if (x.taker() == p) set.add(x.shown());
        return what == 0 ? set.size() : set.isEmpty() ? -1 : what == 1 ? set.first() : set.last();
    }

    private long seed;

    private int draw(int by) {
        seed = (seed * 1103515245L + 12345L) & 0xffffffffL;
        return (int) ((seed % 0x80000000L) / 65536) % by;
    }

    private int[] pass(int from, int takes, int q) {
        Scene s = scene.copy();
        seed = from & 0xffffffffL;
        int failed = 0;
        int fires = 0;
        for (int i = 1; i <= takes && !persons.isEmpty(); i++) {
            int a = draw(persons.size());
            int b = draw(persons.size());
            int h = draw(6);
            if (!take(s, a, b, h)) failed++;
            if (draw(16) < q && burn(s, h)) fires++;
            if (i % 4 == 0) turn(s);
        }
        TreeSet<Integer> set = hadBy(s);
        return new int[] {s.plates.size(), failed, fires, set.size(), bits(set)};
    }

    public int years(int from, int takes, int q, int what) {
        in(takes, 1, 96);
        in(q, 0, 16);
        in(what, 0, 3);
        return pass(from, takes, q)[what];
    }

    public int span(int from, int many, int takes, int q, int what, int p) {
        iae(many < 1 || many > 20 || takes < 1 || takes > 96 || q < 0 || q > 16 || what < 0 || what > 2
            || p < 0 || p >= persons.size());
        TreeSet<Integer> hang = new TreeSet<>();
        int times = 0;
        for (int i = 0; i < many; i++) {
            int[] r = pass(from + i, takes, q);
            hang.add(r[0]);
            if ((r[4] & 1 << p) != 0) times++;
        }
        return what == 0 ? hang.first() : what == 1 ? hang.last() : times;
    }
}
