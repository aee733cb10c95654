/** Random runs of calls, each held against the model. */
public final class RandomRunsTest {
    private static final int RUNS = 700;
    private static final int CALLS = 512;
    private static final int[] FAR =
        {-2147483648, -2147483647, -100000, -3, -2, -1, 8, 32, 64, 256, 65536, 2147483646, 2147483647};

    private final Texts draw;
    private final MaySheep x = new MaySheep();
    private final Model m = new Model();
    private final StringBuilder log = new StringBuilder();
    private int calls = 0;
    private int wrong = 0;

    private RandomRunsTest(long seed) {
        draw = new Texts(seed);
    }

    private void due(String call, int got, int want) {
        calls++;
        log.append(call).append(" = ").append(want).append('\n');
        if (got != want) {
            wrong++;
            System.out.println(call + " answered " + got + ", due is " + want);
        }
    }

    private void put(String text) {
        due("end(0)", x.end(0), m.end(0));
        for (int from = 0; from < text.length(); from += 20) {
            int[] f = Feeding.numbers(text, from);
            due("feed " + text.substring(from), x.feed(f[0], f[1], f[2], f[3], f[4]), m.feed(f[0], f[1], f[2], f[3], f[4]));
        }
        due("end " + text.length(), x.end(text.length()), m.end(text.length()));
    }

    private void hill(String text) {
        put(text);
        due("hill " + text, x.hill(), m.hill());
        due("tape", x.count(13), m.count(13));
    }

    private void rule(String text) {
        put(text);
        due("rule " + text, x.rule(), m.rule());
        due("tape", x.count(13), m.count(13));
    }

    /** A number that is most often within the limits. */
    private int about(int low, int high) {
        if (draw.oneIn(60)) {
            return FAR[draw.upTo(FAR.length)];
        }
        return draw.oneIn(12) ? low - 2 + draw.upTo(high - low + 5) : low + draw.upTo(high - low + 1);
    }

    private void all() {
        for (int what = -1; what <= 14; what++) {
            due("count " + what, x.count(what), m.count(what));
        }
    }

    private void state() {
        for (int s = 0; s < 8; s++) {
            int what = draw.upTo(5);
            due("sheep " + s + " " + what, x.sheep(s, what), m.sheep(s, what));
            int man = draw.upTo(4);
            due("likes " + s + " " + man, x.likes(s, man), m.likes(s, man));
        }
        for (int man = 0; man < 4; man++) {
            int what = draw.upTo(4);
            due("man " + man + " " + what, x.man(man, what), m.man(man, what));
        }
    }

    private void any() {
        int a = about(0, 7);
        int b = about(0, 3);
        int n = about(1, 20);
        int what = about(0, 1);
        switch (draw.upTo(38)) {
            case 0, 1 -> force(about(-1, m.count(4)));
            case 2, 3, 4 -> due("may", x.may(), m.may());
            case 5, 6 -> due("salt " + b + " " + a + " " + n, x.salt(b, a, n), m.salt(b, a, n));
            case 7, 8 -> teach(a, about(-1, 7));
            case 9, 10 -> due("lead " + a + " " + b, x.lead(a, b), m.lead(a, b));
            case 11, 12 -> due("undo", x.undo(), m.undo());
            case 13, 14 -> ahead(about(0, 2));
            case 15 -> won(b, about(1, 8), what);
            case 16 -> due("least " + b + " " + (a + 1) + " " + what, x.least(b, a + 1, what), m.least(b, a + 1, what));
            case 17 -> due("men " + what, x.men(what), m.men(what));
            case 18 -> rests(b, about(0, 3), n, about(0, 2));
            case 19 -> stranger(about(1, draw.oneIn(2) ? 20 : 99), what);
            case 20, 21 -> due("settled " + what, x.settled(what), m.settled(what));
            case 22 -> due("shared " + what, x.shared(what), m.shared(what));
            case 23 -> taught(b, about(0, 2));
            case 24, 25 -> due("worth " + a + " " + b + " " + n, x.worth(a, b, n), m.worth(a, b, n));
            case 26, 27 -> note(a);
            case 28 -> due("ruled " + what, x.ruled(what), m.ruled(what));
            case 29, 30 -> look(about(0, 40), what);
            case 31 -> seed();
            case 32 -> frights(about(1, 10), about(1, 40), draw.oneIn(2) ? draw.upTo(30) : about(0, 100), what);
            case 33 -> due("image " + b, x.image(b), m.image(b));
            case 34 -> due("back " + b, x.back(b), m.back(b));
            case 35 -> state();
            case 36 -> all();
            default -> texts();
        }
    }

    private void force(int rule) {
        due("force " + rule, x.force(rule), m.force(rule));
    }

    private void teach(int a, int other) {
        due("teach " + a + " " + other, x.teach(a, other), m.teach(a, other));
    }

    private void ahead(int what) {
        int number = what == 0 ? about(0, 7) : about(0, 3);
        int n = about(0, 60);
        due("ahead " + number + " " + n + " " + what, x.ahead(number, n, what), m.ahead(number, n, what));
    }

    private void won(int man, int many, int what) {
        due("won " + man + " " + many + " " + what, x.won(man, many, what), m.won(man, many, what));
    }

    private void rests(int a, int b, int n, int what) {
        due("rests " + a + " " + b + " " + n + " " + what, x.rests(a, b, n, what), m.rests(a, b, n, what));
    }

    private void stranger(int liked, int what) {
        due("stranger " + liked + " " + what, x.stranger(liked, what), m.stranger(liked, what));
    }

    private void taught(int man, int what) {
        due("taught " + man + " " + what, x.taught(man, what), m.taught(man, what));
    }

    /** Notes are most often of what some rule does, so that some stay so. */
    private void note(int sheep) {
        int n = draw.oneIn(10) ? about(-1, 40) : draw.upTo(6);
        int man = draw.oneIn(2) ? Math.max(-1, m.sheep(sheep, 1)) : about(-1, 3);
        if (draw.oneIn(5)) {
            n = -1;
        }
        due("note " + n + " " + sheep + " " + man, x.note(n, sheep, man), m.note(n, sheep, man));
    }

    private void look(int n, int what) {
        due("look " + n + " " + what, x.look(n, what), m.look(n, what));
    }

    private void seed() {
        int to = draw.oneIn(4) ? 2147483647 - draw.upTo(3) : draw.upTo(1000000000) * 2 - (draw.oneIn(5) ? 2000000000 : 0);
        due("seed " + to, x.seed(to), m.seed(to));
    }

    private void frights(int times, int n, int p, int what) {
        due("frights " + times + " " + n + " " + p + " " + what, x.frights(times, n, p, what), m.frights(times, n, p, what));
    }

    private void texts() {
        switch (draw.upTo(10)) {
            case 0 -> hill(draw.hill());
            case 1 -> hill(draw.hurt(draw.hill()));
            case 2 -> rule(draw.hurt(draw.rule()));
            case 3 -> rule(draw.rule());
            case 4 -> rule(draw.largeRule());
            case 5 -> hill(draw.pieces());
            case 6 -> rule(draw.pieces());
            case 7 -> hill(draw.hurt(draw.hurt(draw.hill())));
            case 8 -> rule(draw.hurt(draw.hurt(draw.rule())));
            default -> rule("go " + draw.hurt(draw.sum()) + " if " + draw.test(3));
        }
    }

    private int run() {
        if (!draw.oneIn(8)) {
            hill(draw.hill());
        }
        for (int n = draw.upTo(6); n > 0; n--) {
            rule(draw.rule());
        }
        force(m.count(4) - 1);
        while (calls < CALLS - 60 && wrong == 0) {
            any();
        }
        return wrong;
    }

    /** Faults alone, on new objects, so that rules never run out. */
    private static int faults(int many) {
        int wrong = 0;
        for (int i = 0; i < many; i++) {
            RandomRunsTest test = new RandomRunsTest(1000003L * i + 5);
            test.texts();
            wrong += test.wrong;
        }
        return wrong;
    }

    public static void main(String[] args) {
        int runs = args.length > 0 ? Integer.parseInt(args[0]) : RUNS;
        long from = args.length > 1 ? Long.parseLong(args[1]) : 0;
        int wrong = faults(runs * 30);
        for (int i = 0; i < runs && wrong == 0; i++) {
            RandomRunsTest test = new RandomRunsTest(from + i);
            wrong += test.run();
            if (test.wrong != 0) {
                System.out.println("run " + (from + i) + ":\n" + test.log);
            }
        }
        System.out.println(wrong == 0 ? "random runs: as due" : "random runs: not as due");
        System.exit(wrong == 0 ? 0 : 1);
    }
}
