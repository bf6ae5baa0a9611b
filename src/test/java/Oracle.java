import java.util.ArrayDeque;
import java.util.ArrayList;
import java.util.Arrays;
import java.util.Deque;
import java.util.HashMap;
import java.util.List;
import java.util.Map;

/**
 * The document once more, told as plainly as the Java library allows and without a thought for room or speed:
 * trees for texts, whole copies for what can be gone back to, searches that try everything.
 * OracleTest compares the program with it.
 */
final class Oracle {
    static final int NONE = -1;

    static final class Fault extends Exception {
        final int place;

        Fault(int place) {
            this.place = place;
        }
    }

    static final class Broken extends Exception {
    }

    interface Words {
        long get(String word, int number);
    }

    static final class Cat {
        int life;
        List<Integer> yet = new ArrayList<>();
        int ear = 9;
        int gold;
        int ship = NONE;

        Cat copy() {
            Cat c = new Cat();
            c.life = life;
            c.yet = new ArrayList<>(yet);
            c.ear = ear;
            c.gold = gold;
            c.ship = ship;
            return c;
        }

        int spent() {
            return 9 - yet.size() - (life == NONE ? 0 : 1);
        }
    }

    static final class State {
        List<Cat> cats = new ArrayList<>();
        List<Integer> ships = new ArrayList<>();
        List<Integer> seen = new ArrayList<>();
        int[] terms = {0, 1, 0};
        List<List<Clause>> laws = new ArrayList<>();
        int force = NONE;

        State copy() {
            State s = new State();
            for (Cat c : cats) {
                s.cats.add(c.copy());
            }
            s.ships = new ArrayList<>(ships);
            s.seen = new ArrayList<>(seen);
            s.terms = terms.clone();
            s.laws = new ArrayList<>(laws);
            s.force = force;
            return s;
        }
    }

    static final class Clause {
        String verb;
        Node first;
        Node second;
        int times = 1;
        Node test;
    }

    static final class Node {
        String op;
        Node left;
        Node right;
        long number;

        Node(String op, Node left, Node right) {
            this.op = op;
            this.left = left;
            this.right = right;
        }
    }

    /** What can be undone: the number that undo() tells, and all cats and the year as they were. */
    static final class Step {
        int kind;
        List<Cat> cats = new ArrayList<>();
        int year;
    }

    State now = new State();
    List<Step> steps = new ArrayList<>();
    final State[] images = new State[2];
    final List<Integer> tape = new ArrayList<>();
    State latestYears;
    int mice;
    int fault = NONE;
    int stopped = NONE;
    int status;
    final Map<Integer, Integer> refusals = new HashMap<>();

    private int no(int by) {
        status = by;
        refusals.merge(by, 1, Integer::sum);
        return by;
    }

    private int yes(int answer) {
        status = 0;
        return answer;
    }

    // ---- texts

    static final class Parser {
        final List<String> tokens = new ArrayList<>();
        final List<Integer> places = new ArrayList<>();
        final boolean laws;
        int at;
        int parts;
        int open;

        Parser(List<Integer> bytes, boolean laws) {
            this.laws = laws;
            int i = 0;
            while (i < bytes.size()) {
                int j = i + 1;
                String pattern = letter(bytes.get(i)) ? "[a-z]" : digit(bytes.get(i)) ? "[0-9]" : null;
                while (pattern != null && j < bytes.size() && ("" + (char) (int) bytes.get(j)).matches(pattern)) {
                    j++;
                }
                if (bytes.get(i) != ' ') {
                    StringBuilder token = new StringBuilder();
                    for (int k = i; k < j; k++) {
                        token.append((char) (int) bytes.get(k));
                    }
                    tokens.add(token.toString());
                    places.add(i);
                }
                i = j;
            }
            tokens.add("");
            places.add(bytes.size());
        }

        static boolean letter(int b) {
            return b >= 97 && b <= 122;
        }

        static boolean digit(int b) {
            return b >= 48 && b <= 57;
        }

        String peek() {
            return tokens.get(at);
        }

        Fault bad() {
            return new Fault(places.get(at));
        }

        boolean has(String... some) {
            return Arrays.asList(some).contains(peek());
        }

        String want(String... some) throws Fault {
            if (!has(some)) {
                throw bad();
            }
            return tokens.get(at++);
        }

        int number(int least, int most) throws Fault {
            if (!peek().matches("[0-9]+")) {
                throw bad();
            }
            String digits = peek().replaceFirst("^0+(?=.)", "");
            if (digits.length() > 4 || Integer.parseInt(digits) < least || Integer.parseInt(digits) > most) {
                throw bad();
            }
            at++;
            return Integer.parseInt(digits);
        }

        List<Clause> text() throws Fault {
            List<Clause> all = new ArrayList<>();
            do {
                if (all.size() == 12) {
                    throw bad();
                }
                all.add(laws ? lawClause() : orderClause());
            } while (!want(";", "").isEmpty());
            return all;
        }

        Clause lawClause() throws Fault {
            Clause c = new Clause();
            c.verb = want("earns", "dares", "shows", "bars");
            if (!c.verb.equals("bars")) {
                c.first = sum();
            }
            return withIf(c);
        }

        Clause orderClause() throws Fault {
            Clause c = new Clause();
            c.verb = want("sign", "die", "clip", "pass");
            if (!c.verb.equals("pass")) {
                c.first = sum();
                want(c.verb.equals("sign") ? "on" : "as");
                c.second = sum();
            }
            if (has("times")) {
                at++;
                c.times = number(1, 20);
            }
            return withIf(c);
        }

        Clause withIf(Clause c) throws Fault {
            if (has("if")) {
                at++;
                c.test = test();
            }
            return c;
        }

        Node test() throws Fault {
            Node n = both();
            while (has("or")) {
                at++;
                n = new Node("or", n, both());
            }
            return n;
        }

        Node both() throws Fault {
            Node n = plain();
            while (has("and")) {
                at++;
                n = new Node("and", n, plain());
            }
            return n;
        }

        void open() throws Fault {
            if (open == 8) {
                throw bad();
            }
            open++;
            at++;
        }

        Node plain() throws Fault {
            if (has("not")) {
                at++;
                return new Node("not", plain(), null);
            }
            if (has("(")) {
                open();
                Node n = test();
                want(")");
                open--;
                return n;
            }
            Node left = sum();
            String sign = want("<", ">", "=");
            return new Node(sign, left, sum());
        }

        Node sum() throws Fault {
            Node n = term();
            while (has("+", "-")) {
                n = new Node(tokens.get(at++), n, term());
            }
            return n;
        }

        Node term() throws Fault {
            Node n = part();
            while (has("*", "/", "%")) {
                n = new Node(tokens.get(at++), n, part());
            }
            return n;
        }

        Node part() throws Fault {
            if (has("[")) {
                open();
                Node n = sum();
                want("]");
                open--;
                return n;
            }
            if (parts == 50) {
                throw bad();
            }
            parts++;
            if (peek().matches("[0-9]+")) {
                Node n = new Node("number", null, null);
                n.number = number(0, 1000);
                return n;
            }
            if (laws) {
                return new Node(want("cat", "life", "spent", "ear", "gold", "ship", "year", "mood"), null, null);
            }
            Node n = new Node(want("year", "done", "latest", "alive", "life", "gold", "crew"), null, null);
            if (n.op.equals("life") || n.op.equals("gold")) {
                n.number = number(0, 5);
            } else if (n.op.equals("crew")) {
                n.number = number(0, 2);
            }
            return n;
        }
    }

    static long value(Node n, Words words) throws Broken {
        if (n.left == null) {
            return n.op.equals("number") ? n.number : words.get(n.op, (int) n.number);
        }
        long a = value(n.left, words);
        long b = value(n.right, words);
        if (b == 0 && (n.op.equals("/") || n.op.equals("%"))) {
            throw new Broken();
        }
        long r;
        switch (n.op) {
            case "+": r = a + b; break;
            case "-": r = a - b; break;
            case "*": r = a * b; break;
            case "/": r = a / b; break;
            default: r = a - a / b * b; break;
        }
        if (Math.abs(r) > 1_000_000_000L) {
            throw new Broken();
        }
        return r;
    }

    static boolean so(Node n, Words words) throws Broken {
        switch (n.op) {
            case "or": return so(n.left, words) || so(n.right, words);
            case "and": return so(n.left, words) && so(n.right, words);
            case "not": return !so(n.left, words);
            case "<": return value(n.left, words) < value(n.right, words);
            case ">": return value(n.left, words) > value(n.right, words);
            default: return value(n.left, words) == value(n.right, words);
        }
    }

    // ---- laws

    /** What the last clause of a verb tells that holds, null if none does. */
    private static Long lastHeld(List<Clause> law, String verb, Words words) {
        Long told = null;
        for (Clause c : law == null ? List.<Clause>of() : law) {
            try {
                if (c.verb.equals(verb) && (c.test == null || so(c.test, words))) {
                    told = c.first == null ? 1L : value(c.first, words);
                }
            } catch (Broken e) {
                // it does not hold
            }
        }
        return told;
    }

    private static Words lawWords(State s, int cat, int life, int spent, int ship, int year) {
        return (word, number) -> {
            Cat c = s.cats.get(cat);
            switch (word) {
                case "cat": return cat;
                case "life": return life;
                case "spent": return spent;
                case "ear": return c.ear;
                case "gold": return c.gold;
                case "ship": return ship;
                case "year": return year;
                default: return s.terms[2];
            }
        };
    }

    private static List<Clause> lawOf(State s, int number) {
        return number == NONE ? null : s.laws.get(number);
    }

    private static int asked(State s, int law, String verb, int cat, int life, int spent, int year) {
        Long told = lastHeld(lawOf(s, law), verb, lawWords(s, cat, life, spent, s.cats.get(cat).ship, year));
        int most = verb.equals("earns") ? 99 : verb.equals("dares") ? 10 : 9;
        int without = verb.equals("earns") ? life + 1 : verb.equals("dares") ? s.terms[1] : life;
        return told == null ? without : (int) Math.max(0, Math.min(most, told));
    }

    private static int askedNow(State s, String verb, int cat) {
        Cat c = s.cats.get(cat);
        return asked(s, s.force, verb, cat, c.life, c.spent(), s.terms[0]);
    }

    private boolean barred(int cat, int ship) {
        Cat c = now.cats.get(cat);
        Words words = lawWords(now, cat, c.life, c.spent(), ship, now.terms[0]);
        List<Clause> law = lawOf(now, now.force);
        for (Clause clause : law == null ? List.<Clause>of() : law) {
            try {
                if (clause.verb.equals("bars") && (clause.test == null || so(clause.test, words))) {
                    return true;
                }
            } catch (Broken e) {
                // it does not hold
            }
        }
        return false;
    }

    private boolean isCat(int cat) {
        return cat >= 0 && cat < now.cats.size();
    }

    private boolean here(int cat) {
        return isCat(cat) && now.cats.get(cat).life != NONE;
    }

    private boolean isShip(int ship) {
        return ship >= 0 && ship < now.ships.size();
    }

    private boolean isLaw(int law) {
        return law >= 0 && law < now.laws.size();
    }

    private static int bits(List<Integer> numbers) {
        int bits = 0;
        for (int n : numbers) {
            bits |= 1 << n;
        }
        return bits;
    }

    // ---- the face

    int cat(int life) {
        if (life < 0 || life > 8) {
            return no(-1);
        }
        if (now.cats.size() == 6) {
            return no(-5);
        }
        Cat c = new Cat();
        c.life = life;
        for (int l = 0; l < 9; l++) {
            if (l != life) {
                c.yet.add(l);
            }
        }
        now.cats.add(c);
        steps.clear();
        return yes(now.cats.size() - 1);
    }

    int of(int cat, int what) {
        if (!isCat(cat) || what < 0 || what > 8 || what > 5 && !here(cat)) {
            return NONE;
        }
        Cat c = now.cats.get(cat);
        if (what > 5) {
            return askedNow(now, what == 6 ? "earns" : what == 7 ? "dares" : "shows", cat);
        }
        return new int[] {c.life, bits(c.yet), c.ear, c.gold, c.ship, c.spent()}[what];
    }

    int ship(int needs) {
        if (needs < 0 || needs > 511) {
            return no(-1);
        }
        if (now.ships.size() == 3) {
            return no(-5);
        }
        now.ships.add(needs);
        return yes(now.ships.size() - 1);
    }

    private int crew(int ship) {
        int bits = 0;
        for (int c = 0; c < now.cats.size(); c++) {
            bits |= now.cats.get(c).ship == ship ? 1 << c : 0;
        }
        return bits;
    }

    private int lives(int catBits) {
        int bits = 0;
        for (int c = 0; c < now.cats.size(); c++) {
            if ((catBits & 1 << c) != 0 && here(c)) {
                bits |= 1 << now.cats.get(c).life;
            }
        }
        return bits;
    }

    int at(int ship, int what) {
        if (!isShip(ship)) {
            return NONE;
        }
        int barred = 0;
        for (int c = 0; c < now.cats.size(); c++) {
            barred |= here(c) && barred(c, ship) ? 1 << c : 0;
        }
        switch (what) {
            case 0: return now.ships.get(ship);
            case 1: return crew(ship);
            case 2: return now.ships.get(ship) & ~lives(crew(ship));
            case 3: return barred;
            default: return NONE;
        }
    }

    int terms(int what, int value) {
        if (what < 0 || what > 2 || value < 0 || value > new int[] {999, 10, 9}[what]) {
            return no(-1);
        }
        int was = now.terms[what];
        now.terms[what] = value;
        steps.clear();
        return yes(was);
    }

    int feed(int a, int b, int c, int d, int e) {
        if (tape.size() > 380) {
            return NONE;
        }
        for (int n : new int[] {a, b, c, d, e}) {
            tape.add(n >>> 24);
            tape.add(n >>> 16 & 255);
            tape.add(n >>> 8 & 255);
            tape.add(n & 255);
        }
        return tape.size();
    }

    int end(int n) {
        if (n < 0 || n > tape.size()) {
            return NONE;
        }
        while (tape.size() > n) {
            tape.remove(tape.size() - 1);
        }
        return n;
    }

    int row() {
        if (tape.isEmpty()) {
            return no(-6);
        }
        Deque<Integer> bytes = new ArrayDeque<>(tape);
        tape.clear();
        steps.clear();
        mice = 0;
        int came = 0;
        while (bytes.size() >= 3) {
            int life = bytes.pop();
            int others = bytes.pop();
            int ear = bytes.pop();
            if (life > 8 || others > 8 || ear > 9 || now.cats.size() == 6) {
                mice++;
                continue;
            }
            Cat c = new Cat();
            c.life = life;
            for (int l = 0; c.yet.size() < others; l++) {
                if (l != life) {
                    c.yet.add(l);
                }
            }
            c.ear = ear;
            now.cats.add(c);
            came++;
        }
        mice += bytes.isEmpty() ? 0 : 1;
        return yes(came);
    }

    int mice() {
        return mice;
    }

    int law() {
        List<Integer> bytes = new ArrayList<>(tape);
        tape.clear();
        if (now.laws.size() == 6) {
            return no(-5);
        }
        fault = NONE;
        try {
            now.laws.add(new Parser(bytes, true).text());
            return yes(now.laws.size() - 1);
        } catch (Fault f) {
            fault = f.place;
            return no(-6);
        }
    }

    int orders() {
        List<Integer> bytes = new ArrayList<>(tape);
        tape.clear();
        fault = NONE;
        stopped = NONE;
        List<Clause> text;
        try {
            text = new Parser(bytes, false).text();
        } catch (Fault f) {
            fault = f.place;
            return no(-6);
        }
        State before = now.copy();
        List<Step> stepsBefore = new ArrayList<>(steps);
        int[] told = {0, -1};
        for (int c = 0; c < text.size(); c++) {
            for (int t = 0; t < text.get(c).times; t++) {
                if (!order(text.get(c), told)) {
                    now = before;
                    steps = stepsBefore;
                    stopped = c;
                    return no(-3);
                }
            }
        }
        return yes(told[0]);
    }

    private boolean order(Clause c, int[] told) {
        Words words = (word, number) -> {
            switch (word) {
                case "year": return now.terms[0];
                case "done": return told[0];
                case "latest": return told[1];
                case "alive": return count(1);
                case "life": return isCat(number) ? now.cats.get(number).life : -1;
                case "gold": return isCat(number) ? now.cats.get(number).gold : -1;
                default: return isShip(number) ? Integer.bitCount(crew(number)) : -1;
            }
        };
        try {
            if (c.test != null && !so(c.test, words)) {
                return true;
            }
        } catch (Broken e) {
            return true;
        }
        int answer;
        try {
            int a = c.first == null ? 0 : (int) value(c.first, words);
            int b = c.second == null ? 0 : (int) value(c.second, words);
            answer = act(c.verb, a, b);
        } catch (Broken e) {
            return false;
        }
        if (answer < 0) {
            return false;
        }
        told[0]++;
        if (c.verb.equals("die")) {
            told[1] = answer;
        }
        return true;
    }

    int fault() {
        return fault;
    }

    int stopped() {
        return stopped;
    }

    int force(int law) {
        if (law != NONE && !isLaw(law)) {
            return no(-2);
        }
        int was = now.force;
        now.force = law;
        return yes(was);
    }

    private int act(String verb, int a, int b) {
        switch (verb) {
            case "sign":
                if (!isCat(a) || !isShip(b)) {
                    return -2;
                }
                if (!here(a) || now.cats.get(a).ship == b || barred(a, b)) {
                    return -3;
                }
                keep(0);
                now.cats.get(a).ship = b;
                return Integer.bitCount(crew(b));
            case "die":
                if (b < 0 || b > 9) {
                    return -1;
                }
                if (!isCat(a)) {
                    return -2;
                }
                if (!here(a) || (b == 9 ? !now.cats.get(a).yet.isEmpty() : !now.cats.get(a).yet.contains(b))) {
                    return -3;
                }
                keep(1);
                die(now.cats.get(a), b);
                return now.cats.get(a).yet.size();
            case "clip":
                if (b < 0 || b > 8) {
                    return -1;
                }
                if (!isCat(a)) {
                    return -2;
                }
                if (now.cats.get(a).ear == b) {
                    return -3;
                }
                keep(2);
                int was = now.cats.get(a).ear;
                now.cats.get(a).ear = b;
                return was;
            default:
                if (now.terms[0] == 999) {
                    return -3;
                }
                keep(3);
                yearPasses(now);
                return now.terms[0];
        }
    }

    private static void die(Cat c, int next) {
        if (c.yet.isEmpty()) {
            c.life = NONE;
            c.ship = NONE;
        } else {
            c.life = next;
            c.yet.remove((Integer) next);
        }
    }

    private static void yearPasses(State s) {
        int[] earned = new int[s.cats.size()];
        for (int c = 0; c < s.cats.size(); c++) {
            earned[c] = s.cats.get(c).life == NONE ? 0 : askedNow(s, "earns", c);
        }
        for (int c = 0; c < s.cats.size(); c++) {
            s.cats.get(c).gold = Math.min(9999, s.cats.get(c).gold + earned[c]);
        }
        s.terms[0]++;
    }

    private void keep(int kind) {
        Step step = new Step();
        step.kind = kind;
        for (Cat c : now.cats) {
            step.cats.add(c.copy());
        }
        step.year = now.terms[0];
        steps.add(step);
        if (steps.size() > 16) {
            steps.remove(0);
        }
    }

    private int told(int answer) {
        return answer < 0 ? no(answer) : yes(answer);
    }

    int sign(int cat, int ship) {
        return told(act("sign", cat, ship));
    }

    int die(int cat, int next) {
        return told(act("die", cat, next));
    }

    int clip(int cat, int ear) {
        return told(act("clip", cat, ear));
    }

    int pass() {
        return told(act("pass", 0, 0));
    }

    int undo() {
        if (steps.isEmpty()) {
            return no(-3);
        }
        Step step = steps.remove(steps.size() - 1);
        now.cats = step.cats;
        now.terms[0] = step.year;
        return yes(step.kind);
    }

    private static List<Integer> without(List<Integer> some, int one) {
        List<Integer> rest = new ArrayList<>(some);
        rest.remove((Integer) one);
        return rest;
    }

    private long hadBy(int cat, int life, List<Integer> yet, int n, Map<String, Long> known) {
        if (n == 0) {
            return 0;
        }
        String key = life + "/" + yet + "/" + n;
        if (known.containsKey(key)) {
            return known.get(key);
        }
        int spent = 8 - yet.size();
        int earns = asked(now, now.force, "earns", cat, life, spent, now.terms[0]);
        int dares = asked(now, now.force, "dares", cat, life, spent, now.terms[0]);
        long most = 0;
        for (int l : yet) {
            most = Math.max(most, hadBy(cat, l, without(yet, l), n - 1, known));
        }
        long had = earns * 1_000_000L + hadBy(cat, life, yet, n - 1, known) * (10 - dares) / 10 + most * dares / 10;
        known.put(key, had);
        return had;
    }

    long had(int cat, int n) {
        if (!here(cat) || n < 0 || n > 9) {
            return NONE;
        }
        return hadBy(cat, now.cats.get(cat).life, now.cats.get(cat).yet, n, new HashMap<>());
    }

    int next(int cat, int n) {
        if (!here(cat) || n < 0 || n > 9) {
            return NONE;
        }
        Map<String, Long> known = new HashMap<>();
        List<Integer> yet = now.cats.get(cat).yet;
        int best = NONE;
        long most = -1;
        for (int l : yet) {
            long had = hadBy(cat, l, without(yet, l), n, known);
            if (had > most) {
                most = had;
                best = l;
            }
        }
        return best;
    }

    long likely(int cat, int n) {
        if (!isCat(cat) || n < 0 || n > 60) {
            return NONE;
        }
        if (!here(cat)) {
            return 0;
        }
        List<Integer> chain = new ArrayList<>(List.of(now.cats.get(cat).life));
        chain.addAll(now.cats.get(cat).yet);
        int spent = now.cats.get(cat).spent();
        long[] parts = new long[chain.size() + 1];
        parts[0] = 1_000_000_000_000L;
        for (int y = 0; y < n; y++) {
            long[] then = new long[chain.size() + 1];
            for (int i = 0; i < chain.size(); i++) {
                int dares = asked(now, now.force, "dares", cat, chain.get(i), spent + i, now.terms[0]);
                then[i] += parts[i] * (10 - dares) / 10;
                then[i + 1] += parts[i] * dares / 10;
            }
            parts = then;
        }
        long all = 0;
        for (int i = 0; i < chain.size(); i++) {
            all += parts[i];
        }
        return all;
    }

    int seen(int doing) {
        if (doing < 0 || doing > 9) {
            return no(-1);
        }
        if (now.seen.size() == 8) {
            return no(-5);
        }
        now.seen.add(doing);
        return yes(now.seen.size());
    }

    int forget() {
        int had = now.seen.size();
        now.seen.clear();
        return had;
    }

    private int shows(int cat, int life, int spent, int inYears) {
        return asked(now, now.force, "shows", cat, life, spent, now.terms[0] + inYears);
    }

    int canBe(int cat) {
        if (!isCat(cat)) {
            return NONE;
        }
        int bits = 0;
        for (int l = 0; l < 9; l++) {
            boolean all = true;
            for (int i = 0; i < now.seen.size(); i++) {
                all &= shows(cat, l, now.cats.get(cat).spent(), i) == now.seen.get(i);
            }
            bits |= all ? 1 << l : 0;
        }
        return bits;
    }

    int look(int cat, int what) {
        int can = canBe(cat);
        if (can <= 0 || what < 0 || what > 1) {
            return NONE;
        }
        int year = NONE;
        int left = 99;
        for (int y = 0; y < 10; y++) {
            Map<Integer, Integer> groups = new HashMap<>();
            for (int l = 0; l < 9; l++) {
                if ((can & 1 << l) != 0) {
                    groups.merge(shows(cat, l, now.cats.get(cat).spent(), y), 1, Integer::sum);
                }
            }
            int most = groups.values().stream().mapToInt(g -> g).max().getAsInt();
            if (most < left) {
                left = most;
                year = y;
            }
        }
        return what == 0 ? year : left;
    }

    /** The fewest lives for what was seen from the i-th on, this life being the last taken and showing no more: 99 if none. */
    private int fewest(int cat, int i, int life, List<Integer> yet, int spent) {
        if (i == now.seen.size()) {
            return 0;
        }
        int best = 99;
        if (shows(cat, life, spent, i) == now.seen.get(i)) {
            best = fewest(cat, i + 1, life, yet, spent);
            if (i + 1 < now.seen.size()) {
                for (int l : yet) {
                    best = Math.min(best, 1 + fewest(cat, i + 1, l, without(yet, l), spent + 1));
                }
            }
        }
        return best;
    }

    int explained(int cat) {
        if (!here(cat)) {
            return NONE;
        }
        if (now.seen.isEmpty()) {
            return 0;
        }
        Cat c = now.cats.get(cat);
        int best = 1 + fewest(cat, 0, c.life, c.yet, c.spent());
        return best > 9 ? NONE : best;
    }

    int complete(int ship, int what) {
        if (!isShip(ship) || what < 0 || what > 1) {
            return NONE;
        }
        for (int many = 0; many <= 6; many++) {
            for (int set = 0; set < 64; set++) {
                boolean good = Integer.bitCount(set) == many;
                for (int c = 0; c < 6; c++) {
                    if ((set & 1 << c) != 0) {
                        good = good && here(c) && now.cats.get(c).ship == NONE && !barred(c, ship);
                    }
                }
                if (good && (now.ships.get(ship) & ~lives(crew(ship) | set)) == 0) {
                    return what == 0 ? many : set;
                }
            }
        }
        return NONE;
    }

    long safe(int ship) {
        if (!isShip(ship)) {
            return NONE;
        }
        long chance = 1_000_000_000_000L;
        for (int c = 0; c < now.cats.size(); c++) {
            if (now.cats.get(c).ship == ship) {
                chance = chance * (10 - askedNow(now, "dares", c)) / 10;
            }
        }
        return chance;
    }

    int frauds() {
        int bits = 0;
        for (int c = 0; c < now.cats.size(); c++) {
            Cat cat = now.cats.get(c);
            bits |= cat.life != NONE && cat.ear < 9 && cat.ear != cat.life ? 1 << c : 0;
        }
        return bits;
    }

    int passing(int i) {
        List<Integer> twos = new ArrayList<>();
        for (int a = 0; a < now.cats.size(); a++) {
            for (int b = a + 1; b < now.cats.size(); b++) {
                Cat one = now.cats.get(a);
                Cat other = now.cats.get(b);
                boolean pass = here(a) && here(b) && one.life != other.life;
                for (int y = 0; y < 10 && pass; y++) {
                    pass = shows(a, one.life, one.spent(), y) == shows(b, other.life, other.spent(), y);
                }
                if (pass) {
                    twos.add(10 * a + b);
                }
            }
        }
        return i == NONE ? twos.size() : i >= 0 && i < twos.size() ? twos.get(i) : NONE;
    }

    int unused() {
        return 511 & ~lives(63);
    }

    int rich(int law) {
        if (law != NONE && !isLaw(law)) {
            return NONE;
        }
        int all = 0;
        for (int c = 0; c < now.cats.size(); c++) {
            Cat cat = now.cats.get(c);
            all += cat.life == NONE ? 0 : asked(now, law, "earns", c, cat.life, cat.spent(), now.terms[0]);
        }
        return all;
    }

    int years(int seed, int n) {
        if (seed < 0 || seed > 1_000_000 || n < 1 || n > 60) {
            return no(-1);
        }
        if (now.cats.isEmpty()) {
            return no(-3);
        }
        State paper = now.copy();
        long s = seed;
        int deaths = 0;
        for (int i = 0; i < n; i++) {
            if (paper.terms[0] >= 999) {
                break;
            }
            for (int c = 0; c < paper.cats.size(); c++) {
                Cat cat = paper.cats.get(c);
                if (cat.life != NONE) {
                    s = (s * 1103 + 12345) % 1_000_003;
                    if (s % 10 < askedNow(paper, "dares", c)) {
                        die(cat, cat.yet.isEmpty() ? 9 : cat.yet.get(0));
                        deaths++;
                    }
                }
            }
            yearPasses(paper);
        }
        latestYears = paper;
        return yes(deaths);
    }

    int drawn(int cat, int what) {
        if (latestYears == null || cat < 0 || cat >= latestYears.cats.size() || what < 0 || what > 2) {
            return NONE;
        }
        Cat c = latestYears.cats.get(cat);
        return what == 0 ? c.life : what == 1 ? c.yet.size() : c.gold;
    }

    int image(int k) {
        if (k < 0 || k > 1) {
            return no(-1);
        }
        images[k] = now.copy();
        return yes(0);
    }

    int back(int k) {
        if (k < 0 || k > 1) {
            return no(-1);
        }
        if (images[k] == null) {
            return no(-2);
        }
        now = images[k].copy();
        steps.clear();
        return yes(0);
    }

    int count(int what) {
        int alive = 0;
        int gold = 0;
        for (Cat c : now.cats) {
            alive += c.life == NONE ? 0 : 1;
            gold += c.gold;
        }
        int[] counts = {now.cats.size(), alive, now.ships.size(), now.seen.size(), now.laws.size(), steps.size(),
            tape.size(), refusals.getOrDefault(-1, 0), refusals.getOrDefault(-2, 0), refusals.getOrDefault(-3, 0),
            refusals.getOrDefault(-5, 0), refusals.getOrDefault(-6, 0), now.force, now.terms[0], now.terms[1],
            now.terms[2], gold};
        return what >= 0 && what < counts.length ? counts[what] : NONE;
    }

    int status() {
        return status;
    }
}
