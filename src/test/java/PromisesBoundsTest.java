import java.io.IOException;
import java.util.function.IntFunction;
import java.util.function.Supplier;
import java.util.function.ToIntFunction;

/** The bounds and refusals that the promises name: each sentence with a test of its own. */
public final class PromisesBoundsTest {
    private static final int NONE = MaySheep.NONE;
    private static final int LEAST = Integer.MIN_VALUE;
    private static final int MOST = Integer.MAX_VALUE;
    private static final String NO_SHEEP = "hill 5 6;man 1 2;man 3 4";
    private static final String NO_MEN = "hill 5 6;sheep 2;sheep 3";
    private static final String BARE = "hill 5 6";

    private final Checks checks = new Checks();
    private final Sentences s = new Sentences(checks);

    private PromisesBoundsTest() throws IOException {
    }

    private void due(String what, long got, long want) {
        checks.due(what, got, want);
    }

    private void same(String what, String got, String want) {
        checks.same(what, got, want);
    }

    /** Numbers that are not from low to high: next to these, and far away, so that no bits are cut off. */
    private static int[] beyond(int low, int high) {
        return new int[] {low - 1, low - 2, high + 1, high + 2, high + 256, high + 65536, LEAST, LEAST + 1, MOST, MOST - 1};
    }

    /** A call answers so, and all is as on an object that it was not made on. */
    private void nothing(String what, int want, Supplier<MaySheep> made, ToIntFunction<MaySheep> call) {
        MaySheep x = made.get();
        due(what, call.applyAsInt(x), want);
        same(what + ": nothing happens", Made.all(x), Made.all(made.get()));
    }

    /** Refused for all numbers beyond low and high, but for one (or none: low again). */
    private void refused(int want, int low, int high, int but, IntFunction<ToIntFunction<MaySheep>> call) {
        for (int number : beyond(low, high)) {
            if (number != but) {
                nothing("with " + number, want, Made::busy, call.apply(number));
            }
        }
    }

    private void refused(int want, int low, int high, IntFunction<ToIntFunction<MaySheep>> call) {
        refused(want, low, high, low, call);
    }

    private void withoutHill(int want, ToIntFunction<MaySheep> call) {
        nothing("without a hill", want, MaySheep::new, call);
        nothing("gone back to none", want, () -> {
            MaySheep x = new MaySheep();
            x.image(0);
            Feeding.hill(x, Made.HILL);
            x.back(0);
            return x;
        }, call);
    }

    private void newObject() {
        s.in("Promise 1");
        s.says("No HILL, no RULES, none IN FORCE.", () -> {
            MaySheep x = new MaySheep();
            same("counts", Made.counts(x), "0 0 0 0 0 -1 0 0 0 0 0 0 0 0");
            due("no sheep", x.sheep(0, 0), -2);
            due("no man", x.man(0, 0), NONE);
            due("no May", x.may(), NONE);
            due("no rule", x.force(0), -2);
            due("none in force", x.force(NONE), NONE);
            due("no act", x.undo(), NONE);
            for (int k = 0; k < 4; k++) {
                due("no image", x.back(k), NONE);
            }
        });
    }

    private void tape() {
        int blanks = 0x20202020;
        s.in("Promise 2");
        s.says("Twenty bytes come behind the TAPE, of each number the highest first: how many it has", () -> {
            MaySheep x = new MaySheep();
            due("20", x.feed(0x68696c6c, 0x20312032, 0x3b736865, 0x65702037, 0x3b6d616e), 20);
            due("40", x.feed(0x20332034, blanks, blanks, blanks, blanks), 40);
            due("a hill", x.hill(), 1);
            same("as it was told", x.count(0) + " " + x.count(1) + " " + x.sheep(0, 0) + " " + x.man(0, 0) + " " + x.man(0, 1),
                "1 2 7 3 4");
            due("the highest bits, too", x.feed(0xe8696c6c, 0x20312032, blanks, blanks, blanks), 20);
            due("are no letter", x.hill(), -3);
            x.feed(0x68696c6c, 0x203120b2, -1, 0, LEAST);
            due("nor digit", x.hill(), -2 - (1 + 8 * 7));
        });
        s.says("NONE, and none comes, if it would have more than 400", () -> {
            MaySheep x = new MaySheep();
            for (int n = 20; n <= 400; n += 20) {
                due("up to 400", x.feed(blanks, blanks, blanks, blanks, blanks), n);
            }
            due("at 400", x.feed(blanks, blanks, blanks, blanks, blanks), NONE);
            for (int n = 399; n > 380; n--) {
                x.end(n);
                due("at " + n, x.feed(blanks, blanks, blanks, blanks, blanks), NONE);
                due("none comes", x.count(13), n);
            }
            x.end(380);
            due("at 380", x.feed(blanks, blanks, 0x68696c6c, 0x20312032, blanks), 400);
            due("they came", x.hill(), 0);
            nothing("at 381", NONE, PromisesBoundsTest::nearlyFull, y -> y.feed(-1, -1, -1, -1, -1));
        });
        s.in("Promise 3");
        s.says("The TAPE has its first n bytes alone: n", () -> {
            MaySheep x = new MaySheep();
            due("0 of none", x.end(0), 0);
            x.feed(0x68696c6c, 0x20312032, 0x3b736865, 0x65702037, 0x21212121);
            due("all", x.end(20), 20);
            due("16", x.end(16), 16);
            due("behind these", x.feed(0x3b736865, 0x65702038, blanks, blanks, blanks), 36);
            due("two sheep", x.hill(), 2);
            due("0 of some", x.feed(0x68696c6c, 0x20312032, 0, 0, 0) + x.end(0), 20);
            due("empty", x.hill(), -3);
        });
        s.says("NONE, and nothing happens, if it has not so many, or n is below 0", () -> {
            int length = Made.busy().count(13);
            refused(NONE, 0, length, n -> x -> x.end(n));
            due("just so many", Made.busy().end(length), length);
            for (int n : new int[] {1, -1, 20, 400, LEAST, MOST}) {
                nothing("none there", NONE, MaySheep::new, x -> x.end(n));
            }
        });
    }

    private static MaySheep nearlyFull() {
        MaySheep x = Made.with(Made.HILL);
        Feeding.put(x, "hill 3 4" + " ".repeat(373));
        return x;
    }

    /** Some of everything, and this text on the tape. */
    private static MaySheep busyWith(String text) {
        MaySheep x = Made.busy();
        Feeding.put(x, text);
        return x;
    }

    private void hill() {
        s.in("Promise 4");
        s.says("The TAPE, which is empty then, is the HILL in place of the one there was (no NOTES, nothing to be UNDONE; the"
            + " RULE IN FORCE and x stay)", () -> {
            MaySheep x = Made.busy();
            due("a hill", x.hill(), 1);
            same("in its place", Made.counts(x), "3 4 1 1 2 1 0 1 1 0 0 0 4711 0");
            due("nothing to be undone", x.undo(), NONE);
            due("no liking stays", x.likes(0, 0), 0);
            due("an image stays", x.back(1), 1);
            due("the tape is empty", x.hill(), -3);
        });
        s.says("how many SHEEP", () -> {
            for (int many = 0; many <= 8; many++) {
                due("so many", Feeding.hill(new MaySheep(), "hill 1 1" + ";sheep 1".repeat(many)), many);
            }
        });
        s.says("-2 - its FAULT, and all stays", () -> {
            String[] texts = {"", "!", "hill 1 1;sheep 0", "hill 1 1;sheep 1;sheep 2;man 3 3;likes 0 0 100", "sheep 1"};
            int[] faults = {1, 1, 1 + 8 * 15 + 1, 1 + 8 * 43 + 1, 5};
            for (int i = 0; i < texts.length; i++) {
                String text = texts[i];
                MaySheep x = busyWith(text);
                due(text, x.hill(), -2 - faults[i]);
                due("but for the tape", x.count(13), 0);
                same("all stays", Made.all(x), Made.all(busyWith("")));
                x = new MaySheep();
                Feeding.hill(x, text);
                due("still no hill", x.may(), NONE);
            }
        });
    }

    private static MaySheep sixRules(String tape) {
        MaySheep x = Made.with(Made.HILL, "go 1", "go 2", "go 3", "go 4", "go man", "go likes");
        x.may();
        Feeding.put(x, tape);
        return x;
    }

    private void rules() {
        s.in("Promise 5");
        s.says("The TAPE, which is empty then, is a RULE: its number", () -> {
            MaySheep x = new MaySheep();
            for (int n = 0; n < 6; n++) {
                due("its number", Feeding.rule(x, "go " + n), n);
                due("empty", x.count(13), 0);
                due("how many", x.count(4), n + 1);
            }
            due("none is in force by that", x.count(5), NONE);
        });
        s.says("-2 - its FAULT", () -> {
            String[] texts = {"", "!", "go 123456", "go 1" + ";go 1".repeat(12), "go 1+"};
            int[] faults = {1, 1, 1 + 8 * 3 + 1, 1 + 8 * 60 + 4, 1 + 8 * 5};
            for (int i = 0; i < texts.length; i++) {
                MaySheep x = busyWith(texts[i]);
                due(texts[i], x.rule(), -2 - faults[i]);
                same("all but the tape stays", Made.all(x), Made.all(busyWith("")));
            }
            MaySheep x = busyWith("!");
            x.rule();
            due("no number was taken", Feeding.rule(x, "go 1"), 2);
        });
        s.says("NONE, and nothing happens: there are 6", () -> {
            for (String tape : new String[] {"go 7", "go", "", "hill 9 9;sheep 1"}) {
                nothing("a seventh: " + tape, NONE, () -> sixRules(tape), x -> x.rule());
            }
            MaySheep x = sixRules("hill 9 9");
            x.rule();
            due("what is on the tape stays", x.hill(), 0);
            due("and is what it was", x.count(0), 9);
        });
        s.in("Promise 6");
        s.says("A RULE is IN FORCE (NONE: none): which was", () -> {
            MaySheep x = sixRules("");
            int was = 5;
            for (int rule : new int[] {0, 5, NONE, NONE, 3, 3, NONE}) {
                due("which was", x.force(rule), was);
                due("which is", x.count(5), rule);
                was = rule;
            }
            x.force(4);
            due("in force", x.ahead(0, 1, 0), 1);
            x.force(NONE);
            due("none", x.ahead(0, 1, 0), 0);
        });
        s.says("-2, and nothing happens, if there is none such", () -> {
            refused(-2, NONE, 1, rule -> x -> x.force(rule));
            nothing("no 6", -2, () -> sixRules(""), x -> x.force(6));
            nothing("no 0", -2, MaySheep::new, x -> x.force(0));
            nothing("no 0", -2, () -> Made.with(Made.HILL), x -> x.force(0));
        });
    }

    private void seen() {
        s.in("Promise 7");
        s.says("Of a SHEEP what 0: WOOL, 1: whose (NONE), 2: whom it follows (NONE), 3: its LEADER, 4: how many go with that"
            + " one, itself too.", () -> {
            MaySheep x = Made.with(Made.HILL);
            x.lead(3, 1);
            String[] want = {"4 -1 -1 0 1", "3 -1 -1 1 2", "5 -1 -1 2 1", "1 1 1 1 2"};
            for (int n = 0; n < 4; n++) {
                same("sheep " + n, x.sheep(n, 0) + " " + x.sheep(n, 1) + " " + x.sheep(n, 2) + " " + x.sheep(n, 3) + " "
                    + x.sheep(n, 4), want[n]);
            }
        });
        s.says("-2 without these", () -> {
            refused(-2, 0, 3, sheep -> x -> x.sheep(sheep, 0));
            refused(-2, 0, 4, what -> x -> x.sheep(0, what));
            withoutHill(-2, x -> x.sheep(0, 0));
            nothing("no sheep", -2, () -> Made.with(NO_SHEEP), x -> x.sheep(0, 0));
        });
        s.in("Promise 8");
        s.says("Of a MAN what 0: HANDS, 1: SALT, 2: COINS, 3: his SHEEP, as bits.", () -> {
            MaySheep x = Made.with("hill 1 9" + Made.EIGHT + ";man 9 20;man 1 0", "go 1");
            same("none", x.man(0, 0) + " " + x.man(0, 1) + " " + x.man(0, 2) + " " + x.man(0, 3), "9 20 0 0");
            x.may();
            same("all", x.man(0, 0) + " " + x.man(0, 1) + " " + x.man(0, 2) + " " + x.man(0, 3), "9 20 8 255");
            x.lead(7, 1);
            same("the last", x.man(1, 0) + " " + x.man(1, 1) + " " + x.man(1, 2) + " " + x.man(1, 3), "1 0 0 128");
        });
        s.says("NONE without these", () -> {
            refused(NONE, 0, 1, man -> x -> x.man(man, 0));
            refused(NONE, 0, 3, what -> x -> x.man(0, what));
            withoutHill(NONE, x -> x.man(0, 0));
            nothing("no men", NONE, () -> Made.with(NO_MEN), x -> x.man(0, 3));
        });
        s.in("Promise 9");
        s.says("NONE without these", () -> {
            refused(NONE, 0, 3, sheep -> x -> x.likes(sheep, 0));
            refused(NONE, 0, 1, man -> x -> x.likes(0, man));
            withoutHill(NONE, x -> x.likes(0, 0));
            nothing("no men", NONE, () -> Made.with(NO_MEN), x -> x.likes(0, 0));
            nothing("no sheep", NONE, () -> Made.with(NO_SHEEP), x -> x.likes(0, 0));
        });
    }

    private void mays() {
        s.in("Promise 10");
        s.says("how many SHEEP are another one's than before", () -> {
            MaySheep x = Made.with("hill 1 9" + Made.EIGHT + ";man 9 0;man 9 0", "go 1 if man=year%2", "go 0",
                "go 1 if man=0 and sheep<3");
            x.force(0);
            due("all, of nobody", x.may(), 8);
            due("all, of another", x.may(), 8);
            x.force(1);
            due("all, to nobody", x.may(), 8);
            due("none", x.may(), 0);
            x.force(2);
            x.lead(0, 0);
            x.lead(1, 1);
            x.lead(7, 1);
            due("some", x.may(), 3);
            due("no sheep", Made.with(NO_SHEEP).may(), 0);
            due("no men", Made.with(NO_MEN).may(), 0);
        });
        s.says("NONE, and nothing happens, without a HILL, or in YEAR 999", () -> {
            withoutHill(NONE, x -> x.may());
            nothing("in year 999", NONE, () -> Made.after(999, Made.HILL), x -> x.may());
            due("in year 998", Made.after(998, Made.HILL).may(), 0);
            MaySheep x = Made.after(999, Made.HILL);
            x.undo();
            due("undone, in year 998", x.count(6), 998);
            due("and once more", x.may(), 0);
        });
    }

    private void acts() {
        s.in("Promise 11");
        s.says("NONE, and nothing happens, without these", () -> {
            refused(NONE, 0, 1, man -> x -> x.salt(man, 0, 1));
            refused(NONE, 0, 3, sheep -> x -> x.salt(0, sheep, 1));
            refused(NONE, 1, 20, much -> x -> x.salt(0, 0, much));
            int had = Made.busy().man(0, 2);
            due("fewer than 20", had, 11);
            nothing("one more than he has", NONE, Made::busy, x -> x.salt(0, 0, had + 1));
            due("as many as he has", Made.busy().salt(0, 3, had), had);
            withoutHill(NONE, x -> x.salt(0, 0, 1));
            nothing("no coins", NONE, () -> Made.with(Made.HILL), x -> x.salt(0, 0, 1));
        });
        s.in("Promise 12");
        s.says("TEACH (other NONE: nobody): whom it followed (NONE: nobody)", () -> {
            MaySheep x = Made.with("hill 1 1" + Made.EIGHT);
            due("the last the first", x.teach(7, 0), NONE);
            due("the first the last", x.teach(0, 7), NONE);
            due("another", x.teach(7, 6), 0);
            due("nobody", x.teach(7, NONE), 6);
            due("one again", x.teach(7, 0), NONE);
        });
        s.says("-2, and nothing happens, without these", () -> {
            refused(-2, 0, 3, sheep -> x -> x.teach(sheep, 1));
            refused(-2, 0, 3, sheep -> x -> x.teach(sheep, NONE));
            refused(-2, 0, 3, NONE, other -> x -> x.teach(1, other));
            for (int n = 0; n < 4; n++) {
                int sheep = n;
                nothing("itself", -2, Made::busy, x -> x.teach(sheep, sheep));
                nothing("whom it does", -2, Made::busy, x -> x.teach(sheep, Made.busy().sheep(sheep, 2)));
            }
            withoutHill(-2, x -> x.teach(0, NONE));
            withoutHill(-2, x -> x.teach(0, 1));
        });
        s.in("Promise 13");
        s.says("LEAD: whose it was (NONE: nobody's)", () -> {
            MaySheep x = Made.with("hill 1 1" + Made.EIGHT + Made.FOUR);
            due("nobody's", x.lead(7, 3), NONE);
            due("the last one's", x.lead(7, 0), 3);
            due("the first one's", x.lead(7, 1), 0);
        });
        s.says("-2, and nothing happens, without these", () -> {
            refused(-2, 0, 3, sheep -> x -> x.lead(sheep, 1));
            refused(-2, 0, 1, man -> x -> x.lead(0, man));
            for (int n = 0; n < 4; n++) {
                int sheep = n;
                nothing("whose it is", -2, Made::busy, x -> x.lead(sheep, Made.busy().sheep(sheep, 1)));
            }
            nothing("nobody's to nobody", -2, () -> Made.with(Made.HILL), x -> x.lead(0, NONE));
            withoutHill(-2, x -> x.lead(0, 0));
        });
        s.in("Promise 14");
        s.says("The last ACT is UNDONE: how many more can be", () -> {
            MaySheep x = Made.busy();
            for (int n = 3; n >= 0; n--) {
                due("more", x.undo(), n);
                due("so many", x.count(11), n);
            }
            for (int n = 0; n < 21; n++) {
                x.teach(0, n % 2 == 0 ? 1 : NONE);
            }
            due("20", x.count(11), 20);
            due("19 more", x.undo(), 19);
            x.teach(0, 1);
            due("20 again", x.count(11), 20);
        });
        s.says("NONE, and nothing happens: none can", () -> {
            nothing("new", NONE, MaySheep::new, x -> x.undo());
            nothing("told", NONE, () -> Made.with(Made.HILL), x -> x.undo());
            nothing("gone back", NONE, () -> {
                MaySheep x = Made.busy();
                x.back(1);
                return x;
            }, x -> x.undo());
            nothing("all undone", NONE, () -> {
                MaySheep x = Made.after(25, Made.HILL);
                for (int n = 0; n < 20; n++) {
                    x.undo();
                }
                return x;
            }, x -> x.undo());
        });
    }

    private void ahead() {
        s.in("Promise 15");
        s.says("AHEAD what 0: whose the SHEEP is, 1: COINS, 2: how many, of the MAN of that number.", () -> {
            MaySheep x = Made.with(Made.HILL);
            due("the last sheep", x.ahead(3, 1, 0), 1);
            due("the last man's coins", x.ahead(1, 1, 1), 8);
            due("the last man's sheep", x.ahead(1, 1, 2), 2);
            due("a sheep that is no man", x.ahead(2, 1, 0), 0);
        });
        s.says("-2 without these", () -> {
            refused(-2, 0, 3, sheep -> x -> x.ahead(sheep, 1, 0));
            refused(-2, 0, 1, man -> x -> x.ahead(man, 1, 1));
            refused(-2, 0, 1, man -> x -> x.ahead(man, 1, 2));
            refused(-2, 0, 60, n -> x -> x.ahead(0, n, 0));
            refused(-2, 0, 60, n -> x -> x.ahead(0, n, 1));
            refused(-2, 0, 60, n -> x -> x.ahead(0, n, 2));
            refused(-2, 0, 2, what -> x -> x.ahead(0, 1, what));
            withoutHill(-2, x -> x.ahead(0, 0, 0));
            withoutHill(-2, x -> x.ahead(0, 0, 1));
            nothing("no sheep", -2, () -> Made.with(NO_SHEEP), x -> x.ahead(0, 0, 0));
            nothing("no men", -2, () -> Made.with(NO_MEN), x -> x.ahead(0, 0, 2));
        });
    }

    private void wonAndLeast() {
        s.in("Promise 16");
        s.says("WON what 0: how many, 1: the set; -2: by none.", () -> {
            MaySheep x = Made.with(Made.HILL);
            same("one more than there are", x.won(0, 4, 0) + " " + x.won(0, 4, 1) + " " + x.won(0, 5, 0) + " " + x.won(0, 5, 1),
                "1 2 -2 -2");
            same("no sheep", Made.with(NO_SHEEP).won(0, 1, 0) + " " + Made.with(NO_SHEEP).won(0, 1, 1), "-2 -2");
        });
        s.says("NONE without these", () -> {
            refused(NONE, 0, 1, man -> x -> x.won(man, 1, 0));
            refused(NONE, 1, 8, many -> x -> x.won(0, many, 0));
            refused(NONE, 0, 1, what -> x -> x.won(0, 1, what));
            withoutHill(NONE, x -> x.won(0, 1, 0));
            nothing("no men", NONE, () -> Made.with(NO_MEN), x -> x.won(0, 1, 0));
        });
        s.in("Promise 17");
        s.says("LEAST what 0: how much, 1: the set; -2: by none.", () -> {
            MaySheep x = Made.with(Made.HILL);
            same("one more than there are", x.least(0, 4, 0) + " " + x.least(0, 4, 1) + " " + x.least(0, 5, 0) + " "
                + x.least(0, 5, 1), "20 2 -2 -2");
            same("no sheep", Made.with(NO_SHEEP).least(0, 1, 0) + " " + Made.with(NO_SHEEP).least(0, 1, 1), "-2 -2");
        });
        s.says("NONE without these", () -> {
            refused(NONE, 0, 1, man -> x -> x.least(man, 1, 0));
            refused(NONE, 1, 8, many -> x -> x.least(0, many, 0));
            refused(NONE, 0, 1, what -> x -> x.least(0, 1, what));
            withoutHill(NONE, x -> x.least(0, 1, 0));
            nothing("no men", NONE, () -> Made.with(NO_MEN), x -> x.least(0, 1, 0));
        });
    }

    private void menToStranger() {
        s.in("Promise 18");
        s.says("MEN what 0: how many, 1: the set; -2: all are not enough.", () -> {
            String hill = "hill 1 9" + Made.EIGHT + ";man 2 0;man 2 0;man 2 0;man #  0";
            MaySheep x = Made.with(hill.replace("#", "2"));
            same("all", x.men(0) + " " + x.men(1), "4 15");
            x = Made.with(hill.replace("#", "1"));
            same("not enough", x.men(0) + " " + x.men(1), "-2 -2");
            x = Made.with(NO_MEN);
            same("no men", x.men(0) + " " + x.men(1), "-2 -2");
            x = Made.with(BARE);
            same("no sheep", x.men(0) + " " + x.men(1), "0 0");
        });
        s.says("NONE for others, or without a HILL", () -> {
            refused(NONE, 0, 1, what -> x -> x.men(what));
            withoutHill(NONE, x -> x.men(0));
        });
        s.in("Promise 19");
        s.says("RESTS what 0: how many, 1, 2: SALT of the first (-2: there is none).", () -> {
            MaySheep x = Made.with("hill 9 9;sheep 9;man 1 7;man 1 8", "go salt");
            same("none", x.rests(0, 1, 1, 0) + " " + x.rests(0, 1, 1, 1) + " " + x.rests(0, 1, 1, 2), "0 -2 -2");
            x = Made.with(NO_SHEEP);
            same("no sheep", x.rests(0, 1, 1, 0) + " " + x.rests(0, 1, 1, 1) + " " + x.rests(0, 1, 1, 2), "1 0 0");
        });
        s.says("NONE without these (unlike)", () -> {
            refused(NONE, 0, 1, man -> x -> x.rests(man, 0, 1, 0));
            refused(NONE, 0, 1, man -> x -> x.rests(1, man, 1, 0));
            refused(NONE, 1, 20, n -> x -> x.rests(0, 1, n, 0));
            refused(NONE, 0, 2, what -> x -> x.rests(0, 1, 1, what));
            for (int n = 0; n < 2; n++) {
                int man = n;
                nothing("alike", NONE, Made::busy, x -> x.rests(man, man, 1, 0));
            }
            withoutHill(NONE, x -> x.rests(0, 1, 1, 0));
            nothing("one man", NONE, () -> Made.with("hill 1 1;man 1 1"), x -> x.rests(0, 1, 1, 0));
        });
        s.in("Promise 20");
        s.says("STRANGER what 0: how many SHEEP, 1: WOOL.", () -> {
            MaySheep x = Made.with("hill 1 1" + ";sheep 9".repeat(8));
            same("all", x.stranger(1, 0) + " " + x.stranger(1, 1), "8 72");
            x = Made.with(NO_SHEEP);
            same("no sheep", x.stranger(99, 0) + " " + x.stranger(99, 1), "0 0");
        });
        s.says("NONE without these, or a HILL", () -> {
            refused(NONE, 1, 99, liked -> x -> x.stranger(liked, 0));
            refused(NONE, 0, 1, what -> x -> x.stranger(1, what));
            withoutHill(NONE, x -> x.stranger(1, 0));
        });
    }

    private void settledToWorth() {
        s.in("Promise 21");
        s.says("SETTLED what 0: the YEAR, 1: how much later; -2: they do not.", () -> {
            MaySheep x = Made.with("hill 1 1;sheep 1;sheep 1;sheep 1" + Made.FOUR,
                "go 1 if man=year%4 and sheep=0;go 1 if man=year/4%4 and sheep=1;go 1 if man=year/16 and sheep=2");
            same("they do not", x.settled(0) + " " + x.settled(1), "-2 -2");
            x = Made.after(7, NO_MEN);
            same("this year", x.settled(0) + " " + x.settled(1), "7 1");
            x = Made.with(BARE);
            same("no sheep", x.settled(0) + " " + x.settled(1), "0 1");
        });
        s.says("NONE for others, or without a HILL", () -> {
            refused(NONE, 0, 1, what -> x -> x.settled(what));
            withoutHill(NONE, x -> x.settled(0));
        });
        s.in("Promise 22");
        s.says("SHARED what 0: how much, 1: the part (0: there are no SHEEP).", () -> {
            MaySheep x = Made.with(NO_SHEEP);
            same("no sheep", x.shared(0) + " " + x.shared(1), "0 0");
            x = Made.with("hill 1 1;sheep 9");
            same("one", x.shared(0) + " " + x.shared(1), "9 1");
        });
        s.says("NONE for others, or without a HILL", () -> {
            refused(NONE, 0, 1, what -> x -> x.shared(what));
            withoutHill(NONE, x -> x.shared(0));
        });
        s.in("Promise 23");
        s.says("TAUGHT what 0: how many, 1: which (NONE: nothing), 2: whom (NONE likewise).", () -> {
            MaySheep x = Made.with("hill 1 9" + Made.EIGHT + ";man 9 0;man 9 0;likes 7 1 1;likes 0 0 1");
            same("two", x.taught(1, 0) + " " + x.taught(1, 1) + " " + x.taught(1, 2), "2 0 7");
            x = Made.with("hill 1 9" + Made.EIGHT + ";man 9 0", "go 1");
            same("nothing", x.taught(0, 0) + " " + x.taught(0, 1) + " " + x.taught(0, 2), "8 -1 -1");
            x = Made.with(NO_SHEEP);
            same("no sheep", x.taught(0, 0) + " " + x.taught(0, 1) + " " + x.taught(0, 2), "0 -1 -1");
        });
        s.says("-2 without these", () -> {
            refused(-2, 0, 1, man -> x -> x.taught(man, 0));
            refused(-2, 0, 2, what -> x -> x.taught(0, what));
            withoutHill(-2, x -> x.taught(0, 0));
            nothing("no men", -2, () -> Made.with(NO_MEN), x -> x.taught(0, 0));
        });
        s.in("Promise 24");
        s.says("WORTH (below 0, too)", () -> {
            MaySheep x = Made.with("hill 9 9" + ";sheep 9".repeat(8) + ";man 9 0", "go 1 if flock=0");
            due("below 0", x.worth(7, 0, 1), -648);
            due("0", x.worth(7, 0, 2), 0);
            due("above 0", Made.with("hill 9 9;sheep 9;man 9 0", "go mine").worth(0, 0, 1), 81);
            x = Made.after(155, "hill 9 9" + ";sheep 9".repeat(8) + ";man 9 0;man 9 0", "go 2-man");
            x.force(Feeding.rule(x, "go mine"));
            due("0 at 99999", x.worth(0, 1, 1), 81);
            x.lead(0, 1);
            due("no more than 99999", x.worth(0, 0, 1), 0);
        });
        s.says("-100000 without these", () -> {
            refused(-100000, 0, 3, sheep -> x -> x.worth(sheep, 1, 1));
            refused(-100000, 0, 1, man -> x -> x.worth(0, man, 1));
            refused(-100000, 1, 20, n -> x -> x.worth(0, 1, n));
            for (int n = 0; n < 4; n++) {
                int sheep = n;
                nothing("whose it is", -100000, Made::busy, x -> x.worth(sheep, Made.busy().sheep(sheep, 1), 1));
            }
            nothing("nobody's for nobody", -100000, () -> Made.with(Made.HILL), x -> x.worth(0, NONE, 1));
            withoutHill(-100000, x -> x.worth(0, 0, 1));
        });
    }

    private static MaySheep tenNotes() {
        MaySheep x = Made.with(Made.HILL);
        for (int n = 0; n < 10; n++) {
            x.note(40, 0, 0);
        }
        return x;
    }

    private void notes() {
        s.in("Promise 25");
        s.says("A NOTE (n NONE: there are none then, 0): how many", () -> {
            MaySheep x = new MaySheep();
            due("none without a hill", x.note(NONE, 0, 0), 0);
            x = tenNotes();
            due("ten", x.count(10), 10);
            due("none then", x.note(NONE, LEAST, MOST), 0);
            due("none", x.count(10), 0);
            due("none again", x.note(NONE, 0, 0), 0);
            for (int n = 1; n <= 10; n++) {
                due("how many", x.note(n == 1 ? 0 : 40, n % 4, n % 3 - 1), n);
            }
        });
        s.says("-2, and nothing happens, without these (MAN NONE: nobody's), or if there are 10", () -> {
            refused(-2, 0, 40, NONE, n -> x -> x.note(n, 0, 0));
            refused(-2, 0, 3, sheep -> x -> x.note(0, sheep, 0));
            refused(-2, 0, 1, NONE, man -> x -> x.note(0, 0, man));
            due("nobody's", Made.busy().note(0, 0, NONE), 3);
            nothing("an eleventh", -2, PromisesBoundsTest::tenNotes, x -> x.note(0, 0, 0));
            nothing("an eleventh, nobody's", -2, PromisesBoundsTest::tenNotes, x -> x.note(40, 3, NONE));
            withoutHill(-2, x -> x.note(0, 0, 0));
            withoutHill(-2, x -> x.note(0, 0, NONE));
            nothing("no sheep", -2, () -> Made.with(NO_SHEEP), x -> x.note(0, 0, 0));
            nothing("no men", -2, () -> Made.with(NO_MEN), x -> x.note(0, 0, 0));
        });
        s.in("Promise 26");
        s.says("RULED what 0: how many, 1: the first (NONE: none; -2: there is none such).", () -> {
            MaySheep x = Made.with(BARE);
            same("none alone", x.ruled(0) + " " + x.ruled(1), "1 -1");
            x = Made.with(NO_MEN, "go 1");
            x.note(40, 1, NONE);
            same("both", x.ruled(0) + " " + x.ruled(1), "2 -1");
            x = Made.with(Made.HILL, "go 1");
            x.note(0, 1, 0);
            same("the rule", x.ruled(0) + " " + x.ruled(1), "1 0");
            x.note(0, 1, 1);
            same("none such", x.ruled(0) + " " + x.ruled(1), "0 -2");
        });
        s.says("-3 for others, or without a HILL", () -> {
            refused(-3, 0, 1, what -> x -> x.ruled(what));
            withoutHill(-3, x -> x.ruled(0));
        });
        s.in("Promise 27");
        s.says("LOOK (n 0 to 40) what 0: the SHEEP, 1: how many", () -> {
            MaySheep x = Made.with("hill 1 9" + Made.EIGHT + ";man 9 0", "go 1 if sheep=7 and year=40", "go 1 if sheep=6 and year=0");
            same("0", x.look(0, 0) + " " + x.look(0, 1), "6 2");
            same("1", x.look(1, 0) + " " + x.look(1, 1), "0 3");
            same("39", x.look(39, 0) + " " + x.look(39, 1), "0 3");
            same("40", x.look(40, 0) + " " + x.look(40, 1), "7 2");
        });
        s.says("-2: no RULE is so, or there are no SHEEP.", () -> {
            MaySheep x = Made.with(Made.HILL);
            x.note(0, 0, NONE);
            same("no rule is so", x.look(0, 0) + " " + x.look(40, 1), "-2 -2");
            x = Made.with(NO_SHEEP, "go 1");
            same("no sheep", x.look(0, 0) + " " + x.look(40, 1), "-2 -2");
        });
        s.says("NONE without these, or a HILL", () -> {
            refused(NONE, 0, 40, n -> x -> x.look(n, 0));
            refused(NONE, 0, 1, what -> x -> x.look(0, what));
            withoutHill(NONE, x -> x.look(0, 0));
            nothing("no sheep, and no such", NONE, () -> Made.with(NO_SHEEP), x -> x.look(41, 0));
        });
    }

    private void draws() {
        s.in("Promise 28");
        s.says("NONE, and nothing happens, below 0", () -> {
            for (int x : new int[] {-1, -2, -2147483647, LEAST}) {
                nothing("below 0", NONE, Made::busy, y -> y.seed(x));
                nothing("below 0", NONE, MaySheep::new, y -> y.seed(x));
            }
            MaySheep x = new MaySheep();
            due("the most", x.seed(MOST), 0);
            due("the least", x.seed(0), MOST);
            due("0 was", x.seed(1), 0);
            due("1 was", x.seed(1), 1);
        });
        s.in("Promise 29");
        s.says("FRIGHTS what 0: how many, 1: COINS.", () -> {
            MaySheep x = Made.with(NO_SHEEP);
            same("no sheep", x.frights(10, 40, 0, 0) + " " + x.frights(10, 40, 100, 1), "0 0");
            x = Made.with(NO_MEN);
            same("no men", x.frights(10, 40, 0, 0) + " " + x.frights(10, 40, 100, 1), "20 0");
            x = Made.with("hill 9 20" + ";sheep 9".repeat(8) + ";man 9 0", "go 1");
            same("most", x.frights(10, 40, 0, 0) + " " + x.frights(10, 40, 0, 1), "0 259200");
        });
        s.says("NONE without these, or a HILL", () -> {
            refused(NONE, 1, 10, m -> x -> x.frights(m, 1, 0, 0));
            refused(NONE, 1, 40, n -> x -> x.frights(1, n, 0, 0));
            refused(NONE, 0, 100, p -> x -> x.frights(1, 1, p, 0));
            refused(NONE, 0, 1, what -> x -> x.frights(1, 1, 0, what));
            withoutHill(NONE, x -> x.frights(1, 1, 0, 0));
        });
    }

    private void count() {
        s.in("Promise 30");
        s.says("What 0: PRICE, 1: GRASS, 2: SHEEP, 3: MEN, 4: RULES, 5: the RULE IN FORCE (NONE), 6: YEAR, 7: SHEEP that are"
            + " nobody's, as bits, 8: LEADERS, as bits, 9: COINS of all MEN, 10: NOTES, 11: ACTS that can be UNDONE, 12: x,"
            + " 13: bytes of the TAPE.", () -> {
            same("new", Made.counts(new MaySheep()), "0 0 0 0 0 -1 0 0 0 0 0 0 0 0");
            same("bare", Made.counts(Made.with(BARE)), "5 6 0 0 0 -1 0 0 0 0 0 0 0 0");
            MaySheep x = Made.with("hill 9 20" + ";sheep 9".repeat(8) + Made.FOUR, "go 1", "go 1", "go 1", "go 1", "go 1",
                "go 1 if man=sheep%4");
            same("all nobody's", Made.counts(x), "9 20 8 4 6 5 0 255 255 0 0 0 0 0");
            for (int n = 0; n < 21; n++) {
                x.may();
                x.note(n, 0, 0);
            }
            x.teach(0, 1);
            x.seed(MOST);
            Feeding.put(x, " ".repeat(400));
            same("most", Made.counts(x), "9 20 8 4 6 5 21 0 254 " + 21 * 648 + " 10 20 2147483647 400");
        });
        s.says("NONE for others", () -> refused(NONE, 0, 13, what -> x -> x.count(what)));
    }

    private void images() {
        s.in("Promise 31");
        s.says("An IMAGE is made: YEAR; NONE without it", () -> {
            refused(NONE, 0, 3, k -> x -> x.image(k));
            nothing("new, no 4", NONE, MaySheep::new, x -> x.image(4));
            MaySheep x = new MaySheep();
            due("without a hill", x.image(0), 0);
            Feeding.hill(x, Made.HILL);
            due("in year 0", x.image(3), 0);
            x.may();
            x.may();
            due("in year 2", x.image(3), 2);
            due("what can be undone stays", x.undo(), 1);
            due("the last one made", x.back(3), 2);
        });
        s.in("Promise 32");
        s.says("All is as in an IMAGE: YEAR", () -> {
            MaySheep x = Made.busy();
            x.back(1);
            String was = Made.counts(x) + Made.whose(x) + Made.likes(x, 0) + Made.likes(x, 1) + x.ruled(0) + x.ruled(1);
            for (int n = 0; n < 3; n++) {
                x.may();
                x.salt(0, 0, 5);
                x.teach(0, 1);
                x.lead(1, 0);
                x.note(1, 1, 1);
                x.seed(n);
                x.force(n - 1);
                due("year", x.back(1), 1);
                same("as it was", Made.counts(x) + Made.whose(x) + Made.likes(x, 0) + Made.likes(x, 1) + x.ruled(0) + x.ruled(1),
                    was);
            }
            Feeding.hill(x, BARE);
            due("from another hill", x.back(1), 1);
            x = new MaySheep();
            x.image(2);
            Feeding.hill(x, Made.HILL);
            x.may();
            due("to none", x.back(2), 0);
            same("no hill", Made.counts(x), "0 0 0 0 0 -1 0 0 0 0 0 0 0 0");
        });
        s.says("NONE, and nothing happens, if it was never made, or without it", () -> {
            for (int k : new int[] {0, 2, 3}) {
                nothing("never made", NONE, Made::busy, x -> x.back(k));
                nothing("never made", NONE, MaySheep::new, x -> x.back(k));
            }
            refused(NONE, 0, 3, k -> x -> x.back(k));
        });
    }

    public static void main(String[] args) throws IOException {
        PromisesBoundsTest t = new PromisesBoundsTest();
        t.newObject();
        t.tape();
        t.hill();
        t.rules();
        t.seen();
        t.mays();
        t.acts();
        t.ahead();
        t.wonAndLeast();
        t.menToStranger();
        t.settledToWorth();
        t.notes();
        t.draws();
        t.count();
        t.images();
        t.s.areAllHeld("Promise");
        t.checks.exit("bounds of the promises");
    }
}
