import java.util.ArrayList;
import java.util.Arrays;
import java.util.HashMap;
import java.util.List;
import java.util.Map;
import java.util.TreeMap;

/**
 * The document once more, written as plainly as can be and without a look at MaySheep: trees instead of
 * steps, copies instead of rows, every question tried out by whole Mays. Random runs are held against it.
 */
final class Model {
    private static final class Fault extends RuntimeException {
        final int number;

        Fault(int place, int kind) {
            super(null, null, false, false);
            number = 1 + 8 * place + kind;
        }
    }

    private interface Node {
        long of(Map<String, Long> words);
    }

    private record Clause(Node sum, Node test) {
    }

    private static final class Pasture {
        boolean told = false;
        int price = 0;
        int grass = 0;
        int year = 0;
        List<Integer> wool = new ArrayList<>();
        List<Integer> whose = new ArrayList<>();
        List<Integer> follows = new ArrayList<>();
        List<Integer> hands = new ArrayList<>();
        List<Integer> salt = new ArrayList<>();
        List<Integer> coins = new ArrayList<>();
        Map<List<Integer>, Integer> likes = new HashMap<>();

        Pasture copy() {
            Pasture p = new Pasture();
            p.told = told;
            p.price = price;
            p.grass = grass;
            p.year = year;
            p.wool = new ArrayList<>(wool);
            p.whose = new ArrayList<>(whose);
            p.follows = new ArrayList<>(follows);
            p.hands = new ArrayList<>(hands);
            p.salt = new ArrayList<>(salt);
            p.coins = new ArrayList<>(coins);
            p.likes = new HashMap<>(likes);
            return p;
        }

        int sheep() {
            return wool.size();
        }

        int men() {
            return hands.size();
        }

        int liking(int s, int m) {
            return likes.getOrDefault(List.of(s, m), 0);
        }

        int leader(int s) {
            List<Integer> way = new ArrayList<>();
            int at = s;
            while (!way.contains(at)) {
                way.add(at);
                if (follows.get(at) == -1) {
                    return at;
                }
                at = follows.get(at);
            }
            int least = 99;
            for (int i = way.indexOf(at); i < way.size(); i++) {
                least = Math.min(least, way.get(i));
            }
            return least;
        }

        List<Integer> with(int leader) {
            List<Integer> all = new ArrayList<>();
            for (int s = 0; s < sheep(); s++) {
                if (leader(s) == leader) {
                    all.add(s);
                }
            }
            return all;
        }

        List<Integer> leaders() {
            List<Integer> all = new ArrayList<>();
            for (int s = 0; s < sheep(); s++) {
                if (leader(s) == s) {
                    all.add(s);
                }
            }
            return all;
        }

        List<Integer> flock(int m) {
            List<Integer> all = new ArrayList<>();
            for (int s = 0; s < sheep(); s++) {
                if (whose.get(s) == m) {
                    all.add(s);
                }
            }
            return all;
        }

        int choice(int s, List<Clause> rule) {
            TreeMap<Long, Integer> bySum = new TreeMap<>();
            for (int m = men() - 1; m >= 0; m--) {
                bySum.put(rule == null ? (long) liking(s, m) : sum(s, m, rule), m);
            }
            return bySum.isEmpty() || bySum.lastKey() <= 0 ? -1 : bySum.lastEntry().getValue();
        }

        long sum(int s, int m, List<Clause> rule) {
            Map<String, Long> w = new HashMap<>();
            int woolOfAll = 0;
            for (int o : with(s)) {
                woolOfAll += wool.get(o);
            }
            w.put("sheep", (long) s);
            w.put("man", (long) m);
            w.put("likes", (long) liking(s, m));
            w.put("salt", (long) salt.get(m));
            w.put("hands", (long) hands.get(m));
            w.put("flock", (long) flock(m).size());
            w.put("mine", whose.get(s) == m ? 1L : 0L);
            w.put("led", (long) with(s).size());
            w.put("wool", (long) woolOfAll);
            w.put("coins", (long) coins.get(m));
            w.put("grass", (long) grass);
            w.put("year", (long) year);
            for (Clause c : rule) {
                if (c.test() == null || c.test().of(w) == 1) {
                    return c.sum().of(w);
                }
            }
            return 0;
        }

        void may(List<Clause> rule, List<Integer> frightened) {
            List<Integer> then = new ArrayList<>(whose);
            for (int l : leaders()) {
                int man = frightened.contains(l) ? -1 : choice(l, rule);
                for (int s : with(l)) {
                    then.set(s, man);
                }
            }
            whose = then;
            for (int m = 0; m < men(); m++) {
                List<Integer> his = flock(m);
                for (int s : his.subList(0, Math.min(grass, his.size()))) {
                    coins.set(m, Math.min(99999, coins.get(m) + price * wool.get(s)));
                }
                for (int s : his) {
                    int much = liking(s, m);
                    if (his.size() > hands.get(m)) {
                        much = Math.max(0, much - (his.size() - hands.get(m)));
                    } else {
                        much = Math.min(99, much + salt.get(m) / his.size());
                    }
                    likes.put(List.of(s, m), much);
                }
            }
            year++;
        }

        Pasture after(int n, List<Clause> rule) {
            Pasture p = copy();
            for (int i = 0; i < n; i++) {
                p.may(rule, List.of());
            }
            return p;
        }

        int allCoins() {
            int all = 0;
            for (int c : coins) {
                all += c;
            }
            return all;
        }
    }

    private record Image(Pasture now, Pasture begin, List<int[]> notes, int force, int x) {
    }

    private final StringBuilder tape = new StringBuilder();
    private Pasture now = new Pasture();
    private Pasture begin = new Pasture();
    private List<int[]> notes = new ArrayList<>();
    private final List<List<Clause>> rules = new ArrayList<>();
    private int force = -1;
    private int x = 0;
    private final List<Pasture> acts = new ArrayList<>();
    private final Map<Integer, Image> images = new HashMap<>();

    private String text;
    private int at;
    private int values;

    int feed(int a, int b, int c, int d, int e) {
        if (tape.length() > 380) {
            return -1;
        }
        for (int four : new int[] {a, b, c, d, e}) {
            tape.append((char) (four >>> 24)).append((char) (four >>> 16 & 255));
            tape.append((char) (four >>> 8 & 255)).append((char) (four & 255));
        }
        return tape.length();
    }

    int end(int n) {
        if (n < 0 || n > tape.length()) {
            return -1;
        }
        tape.setLength(n);
        return n;
    }

    private void blanks() {
        while (at < text.length() && text.charAt(at) == ' ') {
            at++;
        }
    }

    /** The word, number or sign that comes next; empty at the end. */
    private String peek() {
        blanks();
        String rest = text.substring(at);
        java.util.regex.Matcher m = java.util.regex.Pattern.compile("[a-z]+|[0-9]+|<=|>=|(?s:.)").matcher(rest);
        return m.lookingAt() ? m.group() : "";
    }

    private boolean takes(String what) {
        if (!peek().equals(what)) {
            return false;
        }
        at += what.length();
        return true;
    }

    private int number(int low, int high) {
        String n = peek();
        if (!n.matches("[0-9]+")) {
            throw new Fault(at, 0);
        }
        if (n.length() > 5 || Integer.parseInt(n) < low || Integer.parseInt(n) > high) {
            throw new Fault(at, 1);
        }
        at += n.length();
        return Integer.parseInt(n);
    }

    private Pasture readHill() {
        Pasture p = new Pasture();
        p.told = true;
        for (int n = 0; ; n++) {
            String word = peek();
            if (!List.of("hill", "sheep", "man", "likes", "follows").contains(word)) {
                throw new Fault(at, 0);
            }
            if (n == 40 || n == 0 && !word.equals("hill") || n > 0 && word.equals("hill")
                    || word.equals("sheep") && p.sheep() == 8 || word.equals("man") && p.men() == 4) {
                throw new Fault(at, 4);
            }
            at += word.length();
            readHillClause(p, word);
            if (peek().isEmpty()) {
                return p;
            }
            if (!takes(";")) {
                throw new Fault(at, 0);
            }
        }
    }

    private void readHillClause(Pasture p, String word) {
        if (word.equals("hill")) {
            p.price = number(1, 9);
            p.grass = number(1, 20);
        } else if (word.equals("sheep")) {
            p.wool.add(number(1, 9));
            p.whose.add(-1);
            p.follows.add(-1);
        } else if (word.equals("man")) {
            p.hands.add(number(1, 9));
            p.salt.add(number(0, 20));
            p.coins.add(0);
        } else if (word.equals("likes")) {
            int s = number(0, p.sheep() - 1);
            int m = number(0, p.men() - 1);
            p.likes.put(List.of(s, m), number(0, 99));
        } else {
            int s = number(0, p.sheep() - 1);
            blanks();
            int place = at;
            int o = number(0, p.sheep() - 1);
            if (s == o) {
                throw new Fault(place, 1);
            }
            p.follows.set(s, o);
        }
    }

    private List<Clause> readRule() {
        List<Clause> clauses = new ArrayList<>();
        values = 0;
        for (int n = 0; ; n++) {
            if (!peek().equals("go")) {
                throw new Fault(at, 0);
            }
            if (n == 12) {
                throw new Fault(at, 4);
            }
            at += 2;
            Node sum = readSum();
            clauses.add(new Clause(sum, takes("if") ? readTest(0) : null));
            if (peek().isEmpty()) {
                return clauses;
            }
            if (!takes(";")) {
                throw new Fault(at, 0);
            }
        }
    }

    private Node readTest(int deep) {
        Node left = readPart(deep);
        if (!takes("or")) {
            return left;
        }
        Node right = readTest(deep);
        return w -> left.of(w) == 1 || right.of(w) == 1 ? 1 : 0;
    }

    private Node readPart(int deep) {
        Node left = readFact(deep);
        if (!takes("and")) {
            return left;
        }
        Node right = readPart(deep);
        return w -> left.of(w) == 1 && right.of(w) == 1 ? 1 : 0;
    }

    private Node readFact(int deep) {
        String first = peek();
        if ((first.equals("not") || first.equals("[")) && deep == 10) {
            throw new Fault(at, 2);
        }
        if (takes("not")) {
            Node of = readFact(deep + 1);
            return w -> of.of(w) == 1 ? 0 : 1;
        }
        if (takes("[")) {
            Node of = readTest(deep + 1);
            if (!takes("]")) {
                throw new Fault(at, 0);
            }
            return of;
        }
        Node left = readSum();
        String sign = peek();
        if (!List.of("<", "<=", "=", ">=", ">").contains(sign)) {
            throw new Fault(at, 0);
        }
        oneMore(at);
        at += sign.length();
        Node right = readSum();
        return w -> compare(sign, left.of(w), right.of(w)) ? 1 : 0;
    }

    private static boolean compare(String sign, long a, long b) {
        return switch (sign) {
            case "<" -> a < b;
            case "<=" -> a <= b;
            case "=" -> a == b;
            case ">=" -> a >= b;
            default -> a > b;
        };
    }

    private void oneMore(int place) {
        values++;
        if (values > 60) {
            throw new Fault(place, 3);
        }
    }

    private Node readSum() {
        Node sum = readTerm();
        while (List.of("+", "-").contains(peek())) {
            Node left = sum;
            boolean plus = takes("+");
            if (!plus) {
                takes("-");
            }
            Node right = readTerm();
            sum = w -> plus ? left.of(w) + right.of(w) : left.of(w) - right.of(w);
        }
        return sum;
    }

    private Node readTerm() {
        Node term = readValue();
        while (List.of("*", "/", "%").contains(peek())) {
            Node left = term;
            String sign = peek();
            at++;
            Node right = readValue();
            term = w -> multiply(sign, left.of(w), right.of(w));
        }
        return term;
    }

    private static long multiply(String sign, long a, long b) {
        if (sign.equals("*")) {
            return a * b;
        }
        if (b == 0) {
            return 0;
        }
        return sign.equals("/") ? a / b : a % b;
    }

    private Node readValue() {
        String word = peek();
        int place = at;
        if (word.matches("[0-9]+")) {
            long n = number(0, 99999);
            oneMore(place);
            return w -> n;
        }
        if (!List.of("sheep", "man", "likes", "salt", "hands", "flock", "mine", "led", "wool", "coins", "grass", "year")
                .contains(word)) {
            throw new Fault(at, 0);
        }
        at += word.length();
        oneMore(place);
        return w -> w.get(word);
    }

    int hill() {
        text = tape.toString();
        tape.setLength(0);
        at = 0;
        try {
            begin = readHill();
        } catch (Fault f) {
            return -2 - f.number;
        }
        now = begin.copy();
        notes = new ArrayList<>();
        acts.clear();
        return now.sheep();
    }

    int rule() {
        if (rules.size() == 6) {
            return -1;
        }
        text = tape.toString();
        tape.setLength(0);
        at = 0;
        try {
            rules.add(readRule());
        } catch (Fault f) {
            return -2 - f.number;
        }
        return rules.size() - 1;
    }

    int force(int rule) {
        if (rule < -1 || rule >= rules.size()) {
            return -2;
        }
        int was = force;
        force = rule;
        return was;
    }

    private boolean isSheep(int s) {
        return s >= 0 && s < now.sheep();
    }

    private boolean isMan(int m) {
        return m >= 0 && m < now.men();
    }

    private static boolean in(int n, int low, int high) {
        return n >= low && n <= high;
    }

    private List<Clause> ruleOf(int number) {
        return number == -1 ? null : rules.get(number);
    }

    private List<Clause> inForce() {
        return ruleOf(force);
    }

    private static int bits(List<Integer> all) {
        int bits = 0;
        for (int i : all) {
            bits += 1 << i;
        }
        return bits;
    }

    int sheep(int sheep, int what) {
        if (!isSheep(sheep) || !in(what, 0, 4)) {
            return -2;
        }
        return new int[] {now.wool.get(sheep), now.whose.get(sheep), now.follows.get(sheep), now.leader(sheep),
            now.with(now.leader(sheep)).size()}[what];
    }

    int man(int man, int what) {
        if (!isMan(man) || !in(what, 0, 3)) {
            return -1;
        }
        return new int[] {now.hands.get(man), now.salt.get(man), now.coins.get(man), bits(now.flock(man))}[what];
    }

    int likes(int sheep, int man) {
        return isSheep(sheep) && isMan(man) ? now.liking(sheep, man) : -1;
    }

    private void act() {
        acts.add(now.copy());
        if (acts.size() > 20) {
            acts.remove(0);
        }
    }

    int may() {
        if (!now.told || now.year == 999) {
            return -1;
        }
        act();
        List<Integer> before = now.whose;
        now.may(inForce(), List.of());
        int others = 0;
        for (int s = 0; s < now.sheep(); s++) {
            others += before.get(s).equals(now.whose.get(s)) ? 0 : 1;
        }
        return others;
    }

    int salt(int man, int sheep, int much) {
        if (!isMan(man) || !isSheep(sheep) || !in(much, 1, 20) || now.coins.get(man) < much) {
            return -1;
        }
        act();
        now.coins.set(man, now.coins.get(man) - much);
        now.likes.put(List.of(sheep, man), Math.min(99, now.liking(sheep, man) + much));
        return now.liking(sheep, man);
    }

    int teach(int sheep, int other) {
        if (!isSheep(sheep) || other != -1 && !isSheep(other) || sheep == other || now.follows.get(sheep) == other) {
            return -2;
        }
        act();
        return now.follows.set(sheep, other);
    }

    int lead(int sheep, int man) {
        if (!isSheep(sheep) || !isMan(man) || now.whose.get(sheep) == man) {
            return -2;
        }
        act();
        return now.whose.set(sheep, man);
    }

    int undo() {
        if (acts.isEmpty()) {
            return -1;
        }
        now = acts.remove(acts.size() - 1);
        return acts.size();
    }

    int ahead(int number, int n, int what) {
        if (!in(what, 0, 2) || !in(n, 0, 60) || (what == 0 ? !isSheep(number) : !isMan(number))) {
            return -2;
        }
        Pasture then = now.after(n, inForce());
        return what == 0 ? then.whose.get(number) : what == 1 ? then.coins.get(number) : then.flock(number).size();
    }

    int won(int man, int many, int what) {
        if (!isMan(man) || !in(many, 1, 8) || !in(what, 0, 1)) {
            return -1;
        }
        for (int size = 0; size <= now.sheep(); size++) {
            for (int set = 0; set < 1 << now.sheep(); set++) {
                if (Integer.bitCount(set) == size) {
                    Pasture p = now.copy();
                    for (int s = 0; s < p.sheep(); s++) {
                        if ((set & 1 << s) != 0) {
                            p.likes.put(List.of(s, man), 99);
                        }
                    }
                    p.may(inForce(), List.of());
                    if (p.flock(man).size() >= many) {
                        return what == 0 ? size : set;
                    }
                }
            }
        }
        return -2;
    }

    int least(int man, int many, int what) {
        if (!isMan(man) || !in(many, 1, 8) || !in(what, 0, 1)) {
            return -1;
        }
        int best = Integer.MAX_VALUE;
        int bestSet = -2;
        for (int set = 0; set < 1 << now.sheep(); set++) {
            Pasture p = now.copy();
            int much = 0;
            for (int s = 0; s < p.sheep(); s++) {
                if ((set & 1 << s) != 0) {
                    do {
                        much++;
                        p.likes.put(List.of(s, man), p.liking(s, man) + 1);
                    } while (p.liking(s, man) < 99 && p.choice(s, null) != man);
                    if (p.liking(s, man) > 99) {
                        much = 1000000;
                    }
                }
            }
            p.may(null, List.of());
            if (p.flock(man).size() >= many && much < best && much < 1000000) {
                best = much;
                bestSet = set;
            }
        }
        return bestSet == -2 ? -2 : what == 0 ? best : bestSet;
    }

    int men(int what) {
        if (!now.told || !in(what, 0, 1)) {
            return -1;
        }
        for (int size = 0; size <= now.men(); size++) {
            for (int set = 0; set < 1 << now.men(); set++) {
                int room = 0;
                for (int m = 0; m < now.men(); m++) {
                    room += (set & 1 << m) == 0 ? 0 : Math.min(now.grass, now.hands.get(m));
                }
                if (Integer.bitCount(set) == size && room >= now.sheep()) {
                    return what == 0 ? size : set;
                }
            }
        }
        return -2;
    }

    private int[] salted(int one, int a, int other, int b, int n) {
        Pasture p = now.copy();
        p.salt.set(one, a);
        p.salt.set(other, b);
        p = p.after(n, inForce());
        return new int[] {p.coins.get(one) - n * a, p.coins.get(other) - n * b};
    }

    int rests(int one, int other, int n, int what) {
        if (!isMan(one) || !isMan(other) || one == other || !in(n, 1, 20) || !in(what, 0, 2)) {
            return -1;
        }
        Map<List<Integer>, int[]> table = new HashMap<>();
        for (int a = 0; a <= 20; a += 5) {
            for (int b = 0; b <= 20; b += 5) {
                table.put(List.of(a, b), salted(one, a, other, b, n));
            }
        }
        List<int[]> all = new ArrayList<>();
        for (int a = 0; a <= 20; a += 5) {
            for (int b = 0; b <= 20; b += 5) {
                int bestOne = Integer.MIN_VALUE;
                int bestOther = Integer.MIN_VALUE;
                for (int c = 0; c <= 20; c += 5) {
                    bestOne = Math.max(bestOne, table.get(List.of(c, b))[0]);
                    bestOther = Math.max(bestOther, table.get(List.of(a, c))[1]);
                }
                if (Arrays.equals(table.get(List.of(a, b)), new int[] {bestOne, bestOther})) {
                    all.add(new int[] {a, b});
                }
            }
        }
        return what == 0 ? all.size() : all.isEmpty() ? -2 : all.get(0)[what - 1];
    }

    int stranger(int liked, int what) {
        if (!now.told || !in(liked, 1, 99) || !in(what, 0, 1)) {
            return -1;
        }
        int[] sums = new int[2];
        for (int s = 0; s < now.sheep(); s++) {
            boolean goes = true;
            for (int m = 0; m < now.men(); m++) {
                goes &= now.liking(now.leader(s), m) < liked;
            }
            sums[0] += goes ? 1 : 0;
            sums[1] += goes ? now.wool.get(s) : 0;
        }
        return sums[what];
    }

    int settled(int what) {
        if (!now.told || !in(what, 0, 1)) {
            return -1;
        }
        List<List<Integer>> whose = new ArrayList<>();
        Pasture p = now.copy();
        for (int n = 0; n <= 40; n++) {
            whose.add(p.whose);
            p.may(inForce(), List.of());
        }
        for (int n = 0; n < 40; n++) {
            int later = whose.subList(n + 1, 41).indexOf(whose.get(n));
            if (later >= 0) {
                return what == 0 ? now.year + n : later + 1;
            }
        }
        return -2;
    }

    int shared(int what) {
        if (!now.told || !in(what, 0, 1)) {
            return -1;
        }
        if (now.sheep() == 0) {
            return 0;
        }
        TreeMap<Integer, Integer> byDifference = new TreeMap<>();
        for (int set = 0; set < 1 << now.sheep(); set++) {
            boolean fits = set % 2 == 1;
            int in = 0;
            int out = 0;
            for (int s = 0; s < now.sheep(); s++) {
                boolean isIn = (set & 1 << s) != 0;
                fits &= isIn == ((set & 1 << now.leader(s)) != 0);
                in += isIn ? now.wool.get(s) : 0;
                out += isIn ? 0 : now.wool.get(s);
            }
            if (fits) {
                byDifference.putIfAbsent(Math.abs(in - out), set);
            }
        }
        return what == 0 ? byDifference.firstKey() : byDifference.firstEntry().getValue();
    }

    int taught(int man, int what) {
        if (!isMan(man) || !in(what, 0, 2)) {
            return -2;
        }
        int[] best = {now.after(1, inForce()).flock(man).size(), -1, -1};
        for (int s = 0; s < now.sheep(); s++) {
            for (int o = 0; o < now.sheep(); o++) {
                if (s != o && now.follows.get(s) != o) {
                    Pasture p = now.copy();
                    p.follows.set(s, o);
                    int has = p.after(1, inForce()).flock(man).size();
                    if (has > best[0]) {
                        best = new int[] {has, s, o};
                    }
                }
            }
        }
        return best[what];
    }

    int worth(int sheep, int man, int n) {
        if (!isSheep(sheep) || !isMan(man) || now.whose.get(sheep) == man || !in(n, 1, 20)) {
            return -100000;
        }
        Pasture led = now.copy();
        led.whose.set(sheep, man);
        return led.after(n, inForce()).coins.get(man) - now.after(n, inForce()).coins.get(man);
    }

    int note(int n, int sheep, int man) {
        if (n == -1) {
            notes = new ArrayList<>();
            return 0;
        }
        if (!in(n, 0, 40) || !isSheep(sheep) || man != -1 && !isMan(man) || notes.size() == 10) {
            return -2;
        }
        notes.add(new int[] {n, sheep, man});
        return notes.size();
    }

    /** Mays are numbered from 0 on: behind the one of number 0 there has been one. */
    private int whoseBehind(int n, int rule, int sheep) {
        return begin.after(n + 1, ruleOf(rule)).whose.get(sheep);
    }

    private List<Integer> so() {
        List<Integer> all = new ArrayList<>();
        for (int r = -1; r < rules.size(); r++) {
            boolean fits = true;
            for (int[] note : notes) {
                fits &= whoseBehind(note[0], r, note[1]) == note[2];
            }
            if (fits) {
                all.add(r);
            }
        }
        return all;
    }

    int ruled(int what) {
        if (!now.told || !in(what, 0, 1)) {
            return -3;
        }
        List<Integer> all = so();
        return what == 0 ? all.size() : all.isEmpty() ? -2 : all.get(0);
    }

    int look(int n, int what) {
        if (!now.told || !in(n, 0, 40) || !in(what, 0, 1)) {
            return -1;
        }
        List<Integer> all = so();
        if (all.isEmpty() || now.sheep() == 0) {
            return -2;
        }
        int[] best = {-2, 1000};
        for (int s = 0; s < now.sheep(); s++) {
            Map<Integer, Integer> byMan = new HashMap<>();
            for (int r : all) {
                byMan.merge(whoseBehind(n, r, s), 1, Integer::sum);
            }
            int most = java.util.Collections.max(byMan.values());
            if (most < best[1]) {
                best = new int[] {s, most};
            }
        }
        return best[what];
    }

    int seed(int to) {
        if (to < 0) {
            return -1;
        }
        int was = x;
        x = to;
        return was;
    }

    int frights(int m, int n, int p, int what) {
        if (!now.told || !in(m, 1, 10) || !in(n, 1, 40) || !in(p, 0, 100) || !in(what, 0, 1)) {
            return -1;
        }
        java.math.BigInteger draw = java.math.BigInteger.valueOf(x);
        int[] sums = new int[2];
        for (int i = 0; i < m; i++) {
            Pasture then = now.copy();
            for (int j = 0; j < n; j++) {
                List<Integer> frightened = new ArrayList<>();
                for (int l : then.leaders()) {
                    draw = draw.multiply(java.math.BigInteger.valueOf(1103515245))
                        .add(java.math.BigInteger.valueOf(12345)).mod(java.math.BigInteger.ONE.shiftLeft(31));
                    if (draw.shiftRight(16).intValue() % 100 < p) {
                        frightened.add(l);
                    }
                }
                then.may(inForce(), frightened);
            }
            sums[0] += then.flock(-1).size();
            sums[1] += then.allCoins();
        }
        return sums[what];
    }

    int count(int what) {
        if (!in(what, 0, 13)) {
            return -1;
        }
        return new int[] {now.price, now.grass, now.sheep(), now.men(), rules.size(), force, now.year,
            bits(now.flock(-1)), bits(now.leaders()), now.allCoins(), notes.size(), acts.size(), x,
            tape.length()}[what];
    }

    int image(int k) {
        if (!in(k, 0, 3)) {
            return -1;
        }
        images.put(k, new Image(now.copy(), begin, new ArrayList<>(notes), force, x));
        return now.year;
    }

    int back(int k) {
        Image image = images.get(k);
        if (image == null) {
            return -1;
        }
        now = image.now().copy();
        begin = image.begin();
        notes = new ArrayList<>(image.notes());
        force = image.force();
        x = image.x();
        acts.clear();
        return now.year;
    }
}
