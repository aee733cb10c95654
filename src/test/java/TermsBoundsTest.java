import java.io.IOException;
import java.math.BigInteger;
import java.util.Arrays;
import java.util.List;
import java.util.function.ToIntFunction;

/** The bounds that the document's terms name: each sentence with a test of its own. */
public final class TermsBoundsTest {
    private static final int NONE = MaySheep.NONE;
    private static final String EIGHT = Made.EIGHT;
    /** 2 to the 63rd, which has gone round to the least number of 64 bits. */
    private static final String LEAST = "32768*32768*32768*32768*8";
    /** Where three sheep go in a year, so that no two of the first 64 years are alike. */
    private static final String DIGITS = "go 1 if man=year%4 and sheep=0 and year<N;"
        + "go 1 if man=year/4%4 and sheep=1 and year<N;go 1 if man=year/16 and sheep=2 and year<N";

    private final Checks checks = new Checks();
    private final Sentences s = new Sentences(checks);

    private TermsBoundsTest() throws IOException {
    }

    private void due(String what, long got, long want) {
        checks.due(what, got, want);
    }

    private void same(String what, String got, String want) {
        checks.same(what, got, want);
    }

    private static int fault(int place, int kind) {
        return -2 - (1 + 8 * place + kind);
    }

    /** The fault is where the bar stands, which is taken out. */
    private void hillFails(String text, int kind) {
        due(text, Feeding.hill(new MaySheep(), text.replace("|", "")), fault(text.indexOf('|'), kind));
    }

    private void ruleFails(String text, int kind) {
        due(text, Feeding.rule(new MaySheep(), text.replace("|", "")), fault(text.indexOf('|'), kind));
    }

    private void hillStands(String text, int sheep) {
        due(text, Feeding.hill(new MaySheep(), text), sheep);
    }

    private void ruleStands(String text) {
        due(text, Feeding.rule(new MaySheep(), text), 0);
    }

    /** The number at the # is taken from low to high; below and above these, or with more digits, it is a fault. */
    private void range(String text, int low, int high, ToIntFunction<MaySheep> read) {
        for (int n = low; n <= high; n++) {
            String five = String.format("%05d", n);
            due(text + " with " + n, read.applyAsInt(Made.with(text.replace("#", "" + n))), n);
            due(text + " with " + five, read.applyAsInt(Made.with(text.replace("#", five))), n);
            hillFails(text.replace("#", "|0" + five), 1);
        }
        if (low > 0) {
            hillFails(text.replace("#", "|" + (low - 1)), 1);
        }
        for (int n : new int[] {high + 1, high + 256, 65536 + low, 99999}) {
            hillFails(text.replace("#", "|" + n), 1);
        }
        hillFails(text.replace("#", "|" + (4294967296L + low)), 1);
        hillFails(text.replace("#", "|-1"), 0);
    }

    private void hills() {
        s.says("A HILL is a text of at most 400 bytes", () -> {
            MaySheep x = Made.with("hill 1 2" + " ".repeat(384) + ";sheep 9");
            due("the last byte counts", x.sheep(0, 0), 9);
            hillFails("hill 1 2" + " ".repeat(391) + ";|", 0);
            hillFails(" ".repeat(400) + "|", 0);
            Feeding.put(x, "hill 1 2" + " ".repeat(392));
            due("no more come", x.feed(0x3b736865, 0x65702031, 0, 0, 0), NONE);
            due("a hill of 400", x.hill(), 0);
        });
        s.says("CLAUSE { ; CLAUSE }, 40 at most", () -> {
            String most = "hill1 2" + ";sheep1".repeat(8) + ";man1 1".repeat(4) + ";likes0 0 1".repeat(26) + ";likes7 3 8";
            due("so many", most.split(";").length, 40);
            due("the 40th counts", Made.with(most).likes(7, 3), 8);
            hillFails(most + ";|likes", 4);
            hillFails(most + ";|follows", 4);
            hillFails(most + ";|", 0);
            hillStands("hill 1 2", 0);
            hillFails("|", 0);
            hillFails("hill 1 2;|", 0);
            hillFails("|;hill 1 2", 0);
            hillFails("hill 1 2;|;sheep 1", 0);
        });
        s.says("PRICE 1 to 9 of wool", () -> range("hill # 7", 1, 9, x -> x.count(0)));
        s.says("GRASS 1 to 20, sheep a man's field feeds", () -> range("hill 7 #", 1, 20, x -> x.count(1)));
        s.says("once, the first CLAUSE", () -> {
            hillFails("hill 1 2;|hill 1 2", 4);
            hillFails("hill 1 2;sheep 1;|hill 1 2", 4);
            for (String clause : new String[] {"sheep 1", "man 1 1", "likes 0 0 1", "follows 0 1"}) {
                hillFails("|" + clause, 4);
                hillFails("|" + clause + ";hill 1 2", 4);
            }
        });
        s.says("sheep NUMBER (WOOL 1 to 9)", () -> range("hill 7 7;sheep #;sheep 5", 1, 9, x -> x.sheep(0, 0)));
        s.says("HANDS 1 to 9", () -> range("hill 7 7;man # 7", 1, 9, x -> x.man(0, 0)));
        s.says("SALT 0 to 20 a year", () -> range("hill 7 7;man 7 #;man 1 1", 0, 20, x -> x.man(0, 1)));
    }

    /** The number of the one that likes is 5 of. */
    private static int liking(MaySheep x) {
        for (int sheep = 0; sheep < 8; sheep++) {
            for (int man = 0; man < 4; man++) {
                if (x.likes(sheep, man) == 5) {
                    return sheep + man;
                }
            }
        }
        return NONE;
    }

    private void told() {
        s.says("a SHEEP, a MAN that were told", () -> {
            for (int many = 1; many <= 8; many++) {
                range("hill 1 2" + ";sheep 1".repeat(many) + ";man 1 1;likes # 0 5", 0, many - 1, TermsBoundsTest::liking);
            }
            for (int many = 1; many <= 4; many++) {
                range("hill 1 2;sheep 1" + ";man 1 1".repeat(many) + ";likes 0 # 5", 0, many - 1, TermsBoundsTest::liking);
            }
            hillFails("hill 1 2;likes |0 0 5", 1);
            hillFails("hill 1 2;sheep 1;likes 0 |0 5", 1);
            hillFails("hill 1 2;man 1 1;likes |0 0 5", 1);
            hillFails("hill 1 2;sheep 1;man 1 1;likes |1 0 5;sheep 1", 1);
            hillFails("hill 1 2;sheep 1;man 1 1;likes 0 |1 5;man 1 1", 1);
        });
        s.says("how much the SHEEP LIKES him, 0 to 99", () ->
            range("hill 7 7;sheep 7;man 7 7;likes 0 0 #", 0, 99, x -> x.likes(0, 0)));
        s.says("of the same two the last told, 0 without", () -> {
            String hill = "hill 1 2;sheep 1;sheep 1;man 1 1;man 1 1;likes 0 0 5";
            same("without", Made.likes(Made.with(hill), 1), "0 0");
            due("another sheep", Made.with(hill + ";likes 1 0 8").likes(0, 0), 5);
            due("another man", Made.with(hill + ";likes 0 1 8").likes(0, 0), 5);
            due("more", Made.with(hill + ";likes 0 0 8").likes(0, 0), 8);
            due("less", Made.with(hill + ";likes 0 0 8;likes 0 0 3").likes(0, 0), 3);
            due("0", Made.with(hill + ";likes 0 0 0").likes(0, 0), 0);
        });
        s.says("a SHEEP that was told goes with another one", () -> {
            for (int many = 2; many <= 8; many++) {
                String hill = "hill 1 2" + ";sheep 1".repeat(many);
                int last = many - 1;
                for (int n = 0; n < many; n++) {
                    int other = n == 0 ? last : 0;
                    due("follows", Made.with(hill + ";follows " + n + " " + other).sheep(n, 2), other);
                }
                hillFails(hill + ";follows |" + many + " 0", 1);
                range(hill + ";follows " + last + " #", 0, last - 1, x -> x.sheep(x.count(2) - 1, 2));
                hillFails(hill + ";follows " + last + " |" + many, 1);
            }
            hillFails("hill 1 2;sheep 1;sheep 1;follows |000000 1", 1);
            hillFails("hill 1 2;sheep 1;sheep 1;follows |99999 1", 1);
            hillFails("hill 1 2;follows |0 1", 1);
            hillFails("hill 1 2;sheep 1;follows 0 |0", 1);
            hillFails("hill 1 2;sheep 1;follows 0 |1", 1);
            hillFails("hill 1 2;sheep 1;follows 0 |1;sheep 1", 1);
        });
        s.says("of a first one the last told", () -> {
            MaySheep x = Made.with("hill 1 2" + EIGHT + ";follows 0 7;follows 1 0;follows 0 2;follows 2 1;follows 2 3");
            same("whom", x.sheep(0, 2) + " " + x.sheep(1, 2) + " " + x.sheep(2, 2), "2 0 3");
        });
        s.says("SHEEP 0 to 7, MEN 0 to 3, in the order told", () -> {
            String hill = "hill 1 2;sheep 8;man 1 8;sheep 7;man 2 7;sheep 6;man 3 6;sheep 5;man 4 5;sheep 4;sheep 3;"
                + "sheep 2;sheep 1";
            MaySheep x = Made.with(hill);
            for (int n = 0; n < 8; n++) {
                due("wool " + n, x.sheep(n, 0), 8 - n);
            }
            for (int n = 0; n < 4; n++) {
                due("hands " + n, x.man(n, 0), n + 1);
                due("salt " + n, x.man(n, 1), 8 - n);
            }
            due("no sheep 8", x.sheep(8, 0), -2);
            due("no man 4", x.man(4, 0), NONE);
            hillFails(hill + ";|sheep 1", 4);
            hillFails(hill + ";|man 1 1", 4);
        });
        s.says("It is YEAR 0; all SHEEP are nobody's, nobody has COINS.", () -> {
            MaySheep x = Made.after(3, Made.HILL);
            Feeding.hill(x, Made.HILL);
            due("year", x.count(6), 0);
            same("whose", Made.whose(x), "-1 -1 -1 -1");
            due("coins", x.man(0, 2) + x.man(1, 2), 0);
            same("likes as told", Made.likes(x, 0), "30 0 10 0");
        });
    }

    /** Whether a test holds for sheep 0 and man 0. */
    private static boolean is(String test) {
        return Made.after(1, "hill 1 1;sheep 1;man 1 0", "go 1 if " + test).sheep(0, 1) == 0;
    }

    private void isSo(String test) {
        comesOut(test, true);
    }

    /** Alone, and within what is made of it. */
    private void comesOut(String test, boolean want) {
        due(test, is(test) ? 1 : 0, want ? 1 : 0);
        due("not [" + test + "]", is("not [" + test + "]") ? 1 : 0, want ? 0 : 1);
        due(test + " and", is(test + " and 1=1") ? 1 : 0, want ? 1 : 0);
        due(test + " or", is(test + " or 1=2") ? 1 : 0, want ? 1 : 0);
    }

    /** A test of four facts, each so by a bit, comes out as told. */
    private void tells(String test, boolean want, int bits) {
        String facts = test;
        for (int i = 0; i < 4; i++) {
            facts = facts.replace("ABCD".substring(i, i + 1), "1=" + (bits >> i & 1));
        }
        due(facts, is(facts) ? 1 : 0, want ? 1 : 0);
    }

    private void rules() {
        s.says("RULES 0 to 5: texts likewise, 12 CLAUSES at most", () -> {
            String eleven = "go 0 if 1=2;".repeat(11);
            due("the 12th counts", Made.after(1, "hill 1 2;sheep 1;man 1 1", eleven + "go 1").sheep(0, 1), 0);
            ruleFails(eleven + "go 1;|go 1", 4);
            ruleFails(eleven + "go 1;|", 0);
            ruleFails("|", 0);
            ruleFails("go 1;|", 0);
            due("400 bytes", Made.after(1, "hill 1 2;sheep 1;man 1 1", "go" + " ".repeat(397) + "1").sheep(0, 1), 0);
            ruleFails("go" + " ".repeat(398) + "|", 0);
            MaySheep x = new MaySheep();
            for (int n = 0; n < 6; n++) {
                due("its number", Feeding.rule(x, "go 1"), n);
            }
            due("no 6", Feeding.rule(x, "go 1"), NONE);
        });
        s.says("go SUM [ if TEST ]. TEST: PART { or PART }. PART: FACT { and FACT }.", () -> {
            for (int bits = 0; bits < 16; bits++) {
                boolean a = (bits & 1) != 0;
                boolean b = (bits & 2) != 0;
                boolean c = (bits & 4) != 0;
                boolean d = (bits & 8) != 0;
                tells("A", a, bits);
                tells("A or B or C or D", a || b || c || d, bits);
                tells("A and B and C and D", a && b && c && d, bits);
                tells("A or B and C or D", a || b && c || d, bits);
                tells("A and B or C and D", a && b || c && d, bits);
                tells("A and [B or C] and D", a && (b || c) && d, bits);
                tells("[A or B] and [C or D]", (a || b) && (c || d), bits);
                tells("not A or B and not C", !a || b && !c, bits);
                tells("not [A or B] and not not C", !(a || b) && c, bits);
                tells("A or not [B and not [C or D]]", a || !(b && !(c || d)), bits);
            }
            ruleFails("|1", 0);
            ruleFails("|man", 0);
            ruleFails("|sheep if 1=1", 0);
            ruleFails("go 1;|likes", 0);
            ruleFails("go 1|<=1", 0);
            ruleFails("go 1|>=1", 0);
            ruleFails("go |>=1", 0);
            ruleFails("go |<=", 0);
        });
        s.says("SIGN one of < <= = >= >", () -> {
            String[] signs = {"<", "<=", "=", ">=", ">"};
            for (int i = 0; i < signs.length; i++) {
                comesOut("2" + signs[i] + "3", i < 2);
                comesOut("3" + signs[i] + "3", i > 0 && i < 4);
                comesOut("4" + signs[i] + "3", i > 2);
                comesOut("0-1" + signs[i] + "0", i < 2);
                comesOut("0" + signs[i] + "0-1", i > 2);
            }
            ruleFails("go 1 if 1 |2", 0);
            ruleFails("go 1 if 1 |man", 0);
            ruleFails("go 1 if 1 |likes=2", 0);
            ruleFails("go 1 if 1<|>2", 0);
            ruleFails("go 1 if 1=|<2", 0);
            ruleFails("go 1 if 1=|=2", 0);
            ruleFails("go 1 if 1<=|=2", 0);
            ruleFails("go 1 if 1|!2", 0);
            ruleFails("go 1 if |<=2", 0);
            ruleFails("go 1 if 1>=|", 0);
            hillFails("hill 1|<=2", 0);
            hillFails("hill 1 2|>=", 0);
        });
        s.says("NUMBER (1 to 5 digits, as far as digits go on)", () -> {
            for (String digits : new String[] {"7", "07", "007", "0007", "00007"}) {
                isSo(digits + "=7");
            }
            isSo("99999=100*1000-1");
            isSo("00000=0");
            isSo("10000=100*100");
            ruleFails("go |000007", 1);
            ruleFails("go |100000", 1);
            ruleFails("go |999999", 1);
            ruleFails("go |" + "1".repeat(397), 1);
            ruleFails("go |4294967297", 1);
            ruleFails("go |18446744073709551617", 1);
            ruleFails("go 1 |2", 0);
            ruleFails("go 99999 |9", 0);
            ruleFails("go 1|/".replace("|/", "/|"), 0);
            ruleFails("go 1|:", 0);
        });
        s.says("WORDS (small letters, as far as these go on)", () -> {
            for (String word : List.of("sheep", "man", "likes", "salt", "hands", "flock", "mine", "led", "wool", "coins",
                    "grass", "year")) {
                ruleStands("go " + word);
                ruleStands("go" + " 1+" + word + "+1");
                ruleFails("go |" + word + "a", 0);
                ruleFails("go |" + word + "z", 0);
                ruleFails("go |" + word + word, 0);
                ruleFails("go |" + word.substring(0, word.length() - 1), 0);
                ruleFails("go |" + word.substring(1), 0);
                ruleFails("go |" + word.toUpperCase(), 0);
                for (int i = 0; i < word.length(); i++) {
                    ruleFails("go |" + word.substring(0, i) + "x" + word.substring(i + 1), 0);
                }
                ruleFails("go " + word + "|A", 0);
                ruleFails("go " + word + "|`", 0);
                ruleFails("go " + word + "|{", 0);
                ruleFails("go " + word + "|1", 0);
            }
            for (String clause : new String[] {"xill 1 1", "hilx 1 1", "xo 1"}) {
                hillFails("|" + clause, 0);
                ruleFails("|" + clause, 0);
            }
            for (String clause : new String[] {"xheep 1", "sheex 1", "xan 1 1", "maxs 1 1", "xikes 0 0 1", "xollows 0 0"}) {
                hillFails("hill 1 1;|" + clause, 0);
            }
            ruleFails("|goman", 0);
            ruleFails("go 1 if 1=1 |andman=1", 0);
            ruleFails("go |" + "a".repeat(397), 0);
        });
    }

    /** Whose the sheep are after a May by which those go to a man of whom a test holds. */
    private static String by(MaySheep x, String test) {
        x.force(Feeding.rule(x, "go 1 if " + test));
        x.may();
        return Made.whose(x);
    }

    private void words() {
        s.says("flock (his SHEEP as the May began)", () -> {
            MaySheep x = Made.with("hill 1 2" + EIGHT + ";man 1 1;man 1 1");
            same("none", by(x, "flock=0"), "0 0 0 0 0 0 0 0");
            same("all eight", by(x, "flock=8"), "0 0 0 0 0 0 0 0");
            same("none of the other", by(x, "flock=0 and man=1"), "1 1 1 1 1 1 1 1");
            x.lead(5, 0);
            same("one", by(x, "flock=1"), "0 0 0 0 0 0 0 0");
        });
        s.says("mine (1 if the SHEEP is his as it began, else 0)", () -> {
            MaySheep x = Made.with("hill 1 2;sheep 1;sheep 1;sheep 1;man 1 1;man 1 1");
            x.lead(0, 1);
            x.lead(2, 0);
            same("1", by(x, "mine=1"), "1 -1 0");
            same("0", by(x, "mine=0"), "0 0 1");
        });
        s.says("led (how many go with it, itself too), wool (of all of these)", () -> {
            String hill = "hill 1 2" + ";sheep 9".repeat(8) + ";man 1 1";
            same("alone", by(Made.with(hill), "led=1 and wool=9"), "0 0 0 0 0 0 0 0");
            StringBuilder ring = new StringBuilder(hill);
            for (int n = 0; n < 8; n++) {
                ring.append(";follows ").append(n).append(' ').append((n + 1) % 8);
            }
            same("all in a ring", by(Made.with(ring.toString()), "led=8 and wool=72 and sheep=0"), "0 0 0 0 0 0 0 0");
            same("wool of each", by(Made.with("hill 1 1;sheep 1;sheep 2;sheep 4;man 1 1;follows 0 2"), "wool=5"), "0 -1 0");
            same("the least", by(Made.with("hill 1 1;sheep 1;man 1 1"), "wool=1 and led=1"), "0");
        });
        s.says("of a SHEEP that leads and a MAN: sheep, man, likes, salt, hands,", () -> {
            MaySheep x = Made.with("hill 1 2" + EIGHT + ";man 1 0;man 9 20;man 2 2;man 3 3;likes 3 2 99");
            same("sheep 0", by(x, "sheep=0"), "0 -1 -1 -1 -1 -1 -1 -1");
            same("sheep 7", by(x, "sheep=7"), "-1 -1 -1 -1 -1 -1 -1 0");
            same("man 3", by(x, "man=3"), "3 3 3 3 3 3 3 3");
            same("likes 99", by(x, "likes=99"), "-1 -1 -1 2 -1 -1 -1 -1");
            same("salt and hands, least", by(x, "salt=0 and hands=1 and man=0"), "0 0 0 0 0 0 0 0");
            same("salt and hands, most", by(x, "salt=20 and hands=9 and man=1"), "1 1 1 1 1 1 1 1");
        });
        s.says("coins (his), grass, year", () -> {
            MaySheep x = Made.with("hill 9 20" + ";sheep 9".repeat(8) + ";man 9 0;man 9 0", "go 1 if coins<99999 and man=0");
            for (int n = 0; n < 155; n++) {
                x.may();
            }
            same("not 99999 until then", Made.whose(x), "0 0 0 0 0 0 0 0");
            x.may();
            due("99999", x.count(7), 255);
            same("coins 0", by(x, "coins=0"), "1 1 1 1 1 1 1 1");
            same("coins 99999", by(x, "coins=99999"), "0 0 0 0 0 0 0 0");
            same("grass 20", by(x, "grass=20 and man=1"), "1 1 1 1 1 1 1 1");
            same("grass 1", by(Made.with("hill 1 1;sheep 1;man 1 1"), "grass=1"), "0");
            x = Made.with("hill 1 1;sheep 1;man 1 1");
            same("year 0", by(x, "year=0"), "0");
            same("year 1", by(x, "year=1"), "0");
            same("no more year 1", by(x, "year=1"), "-1");
        });
    }

    private void sums() {
        s.says("/ is towards 0, % its rest, both 0 by 0", () -> {
            for (String test : new String[] {"7/2=3", "7%2=1", "8/2=4", "8%2=0", "1/2=0", "1%2=1", "0/5=0", "0%5=0",
                    "7/7=1", "7%7=0", "6/7=0", "6%7=6", "7/1=7", "7%1=0", "7/0=0", "7%0=0", "0/0=0", "0%0=0",
                    "99999/0=0", "99999%0=0", "7/man=0", "7%man=0", LEAST + "/0=0", LEAST + "%0=0"}) {
                isSo(test);
            }
            // The least number is 2 short of three thirds: downwards it would be 1 beyond.
            isSo(LEAST + "/3*3-" + LEAST + "=2");
            isSo(LEAST + "%3=0-2");
            isSo(LEAST + "/99999*99999+" + LEAST + "%99999=" + LEAST);
            isSo(LEAST + "%99999<0");
        });
        s.says("all goes round in 64 bits", () -> {
            for (String test : new String[] {LEAST + "<0", LEAST + "-1>0", LEAST + "*2=0", LEAST + "+" + LEAST + "=0",
                    "0-" + LEAST + "=" + LEAST, LEAST + "-1+1=" + LEAST, LEAST + "<" + LEAST + "+1",
                    LEAST + "-1>" + LEAST + "-2", "32768*32768*32768*32768*4>0", "65536*65536>0", "65536*32768>0",
                    "65536*65536/65536=65536", "99999*99999*99999*99999/99999<99999*99999*99999",
                    "32768*32768*32768*32768*16=0"}) {
                isSo(test);
            }
            String hill = "hill 1 1;sheep 1;man 1 1;man 1 1;man 1 1";
            due("the most", Made.after(1, hill, "go " + LEAST + "-1 if man=1;go " + LEAST + "-2").sheep(0, 1), 1);
            due("the least is not above 0", Made.after(1, hill, "go " + LEAST).sheep(0, 1), NONE);
            due("beyond 32 bits", Made.after(1, hill, "go 65536*65536+man").sheep(0, 1), 2);
        });
        s.says("Blanks (32) stand between as one likes", () -> {
            hillStands("hill1 2;sheep1;man1 1;likes0 0 1;sheep1;follows1 0", 2);
            hillStands("  hill  1  2  ;  sheep  1  ;  man  1  1  ;  likes  0  0  1  ", 1);
            ruleStands("go1if1=1or2<3and not[1<=1]");
            ruleStands("  go  1  +  man  if  not  [  1  <=  1  ]  or  1  =  1  ;  go  1  ");
            for (char other : new char[] {0, 9, 10, 13, 31, 33, 95, 160, 255}) {
                hillFails("hill 1|" + other + "2", 0);
                hillFails("hill|" + other + "1 2", 0);
                hillFails("hill 1 2|" + other, 0);
                ruleFails("|" + other + "go 1", 0);
                ruleFails("go 1|" + other, 0);
            }
            hillFails("hill |12 2", 1);
            ruleFails("go 1 if 1< |=2", 0);
            ruleFails("go 1 if 1> |=2", 0);
            ruleFails("|g o 1", 0);
        });
    }

    private void limitsOfRules() {
        s.says("[ and not lie within one another 10 deep at most", () -> {
            for (int brackets = 0; brackets <= 10; brackets++) {
                String nots = "not ".repeat(10 - brackets);
                String opened = "[".repeat(brackets);
                String closed = "]".repeat(brackets);
                boolean isEven = brackets % 2 == 0;
                due("10 deep", is(nots + opened + "1=1" + closed) ? 1 : 0, isEven ? 1 : 0);
                due("10 deep", is(opened + nots + "1=2" + closed) ? 1 : 0, isEven ? 0 : 1);
                ruleFails("go 1 if " + nots + opened + "|[1=1]" + closed, 2);
                ruleFails("go 1 if " + nots + opened + "|not 1=1" + closed, 2);
                ruleFails("go 1 if " + opened + nots + "|[1=1]" + closed, 2);
                ruleFails("go 1 if " + opened + nots + "|not 1=1" + closed, 2);
            }
            isSo("1=1 and ".repeat(1) + "[".repeat(9) + "1=1 and not 1=2 and [1=1] and not 1=2" + "]".repeat(9));
            isSo("[".repeat(9) + "1=1" + "]".repeat(9) + " and " + "[".repeat(9) + "1=1" + "]".repeat(9));
            ruleFails("go 1 if [1=1] and " + "[".repeat(9) + "1=1 or [1=1] and not |not", 2);
        });
        s.says("at most 60 VALUES (of SUMS) and FACTS made of a SIGN, together", () -> {
            String sixty = "go 1" + "+1".repeat(59);
            ruleStands(sixty);
            due("the 60th counts", Made.after(1, "hill 1 1;sheep 1;man 1 1", "go 0" + "*1".repeat(58) + "+1").sheep(0, 1), 0);
            ruleFails(sixty + "+|1", 3);
            ruleFails(sixty + "%|man", 3);
            ruleFails(sixty + ";go |1", 3);
            ruleFails(sixty + " if |1=1", 3);
            ruleStands("go 1" + "+1".repeat(56) + " if 1=1");
            ruleFails("go 1" + "+1".repeat(57) + " if 1=|1", 3);
            ruleFails("go 1" + "+1".repeat(58) + " if 1|=1", 3);
            ruleStands("go 1+1+1 if 1=1" + " and 1=1".repeat(18));
            ruleFails("go 1+1+1 if 1=1" + " and 1=1".repeat(18) + ";go |1", 3);
            ruleStands("go 1 if 1=1;".repeat(11) + "go 1" + "+1".repeat(15));
            ruleFails("go 1 if 1=1;".repeat(11) + "go 1" + "+1".repeat(15) + "+|1", 3);
            MaySheep x = new MaySheep();
            for (int n = 0; n < 6; n++) {
                due("one too many", Feeding.rule(x, sixty + "+1"), fault(sixty.length() + 1, 3));
                due("60 of each rule", Feeding.rule(x, sixty), n);
            }
            // What is no value and no fact of a sign is not counted.
            ruleStands("go 1+1+1 if not [1=1]" + " and not [1=1]".repeat(18));
        });
    }

    private void faults() {
        s.says("FAULTS, the first along the text, 1 + 8 * its place and:", () -> {
            hillFails("|x 1 2;sheep 0", 0);
            hillFails("hill 1 |0;sheep 0", 1);
            hillFails("hill 1 1;sheep |0;hill", 1);
            hillFails("hill |0 0 0", 1);
            ruleFails("go |1234567;go 1234567 !", 1);
            ruleFails("go 1|!" + " go 1 if " + "[".repeat(11), 0);
            due("place 0", Feeding.rule(new MaySheep(), "!"), -3);
            due("place 399", Feeding.rule(new MaySheep(), "go 1" + " ".repeat(395) + "!"), -3 - 8 * 399);
            due("place 400", Feeding.rule(new MaySheep(), "go" + " ".repeat(398)), -3 - 8 * 400);
        });
        s.says("0 a byte or WORD that can't stand there, or the end (behind the last byte)", () -> {
            hillFails("|", 0);
            hillFails("   |", 0);
            hillFails("hill|", 0);
            hillFails("hill 1  |", 0);
            hillFails("hill 1 2;|", 0);
            hillFails("hill 1 2;sheep  |", 0);
            hillFails("hill 1 2;|go 1", 0);
            hillFails("hill 1 2 |3", 0);
            hillFails("hill |sheep", 0);
            ruleFails("|", 0);
            ruleFails("go |", 0);
            ruleFails("go 1+ |", 0);
            ruleFails("go 1 if|", 0);
            ruleFails("go 1 if 1 |", 0);
            ruleFails("go 1 if 1=|", 0);
            ruleFails("go 1 if 1=1 and |", 0);
            ruleFails("go 1 if 1=1 or |", 0);
            ruleFails("go 1 if not |", 0);
            ruleFails("go 1 if [1=1 |", 0);
            ruleFails("go 1 if [1=1] |]", 0);
            ruleFails("go |if 1=1", 0);
            ruleFails("go 1 if |if", 0);
            for (char other = 0; other < 256; other++) {
                if (other < ' ' || other > '~') {
                    hillFails("|" + other, 0);
                    hillFails("hill |" + other + " 2", 0);
                    hillFails("hill 1 2|" + other, 0);
                    hillFails("hill 1 2;|" + other + " 1", 0);
                    ruleFails("|" + other + " 1", 0);
                    ruleFails("go |" + other, 0);
                    ruleFails("go 1|" + other, 0);
                    ruleFails("go 1|" + other + "1", 0);
                    ruleFails("go 1 if |" + other + "1=1", 0);
                    ruleFails("go 1 if 1|" + other + "1", 0);
                    ruleFails("go 1 if 1=1 |" + other + " 1=1", 0);
                }
            }
        });
        s.says("1 a NUMBER of more digits, or not as told (of follows the second SHEEP, if it is the first)", () -> {
            hillFails("hill |000001 1", 1);
            hillFails("hill 1 |21", 1);
            hillFails("hill 1 2;sheep 1;sheep 1;follows 0 |0", 1);
            hillFails("hill 1 2;sheep 1;sheep 1;follows 1  |01", 1);
            hillFails("hill 1 2;sheep 1;sheep 1;follows 1 |00001", 1);
            hillFails("hill 1 2;sheep 1;sheep 1;follows 1 |000000", 1);
            hillFails("hill 1 2;sheep 1;sheep 1;follows |2 2", 1);
            ruleFails("go 1 if 1< |123456", 1);
        });
        s.says("2 too deep (at the sign that opens, or the word not)", () -> {
            ruleFails("go 1 if " + "[ ".repeat(10) + "  |[ 1=1", 2);
            ruleFails("go 1 if " + "[ ".repeat(10) + "  |not 1=1", 2);
            ruleFails("go 1 if " + "not ".repeat(10) + "  |not !", 2);
            ruleFails("go 1 if " + "not ".repeat(10) + "  |[ !", 2);
            ruleFails("go 1 if " + "[".repeat(10) + "1=1 and |[", 2);
        });
        s.says("3 one VALUE or FACT too many (at its first byte; of a FACT at its SIGN)", () -> {
            ruleFails("go 1" + "+1".repeat(59) + " +  |99999", 3);
            ruleFails("go 1" + "+1".repeat(59) + " +  |grass !", 3);
            ruleFails("go 1" + "+1".repeat(58) + " if man  |<= 1", 3);
            ruleFails("go 1" + "+1".repeat(57) + " if man+1  |> 1", 3);
            ruleFails("go 1" + "+1".repeat(57) + " if man >  |1", 3);
        });
        s.says("4 one CLAUSE too many, a second hill, another CLAUSE ahead of it, a ninth SHEEP, a fifth MAN"
            + " (at its first byte)", () -> {
            String most = "hill1 2" + ";sheep1".repeat(8) + ";man1 1".repeat(4) + ";likes0 0 1".repeat(27);
            hillFails(most + "; |likes", 4);
            ruleFails("go 1" + ";go 1".repeat(11) + ";  |go !", 4);
            hillFails("hill 1 2;  |hill !", 4);
            hillFails("  |man !", 4);
            hillStands("hill 1 2" + EIGHT, 8);
            hillFails("hill 1 2" + EIGHT + ";  |sheep !", 4);
            hillStands("hill 1 2" + Made.FOUR, 0);
            hillFails("hill 1 2" + Made.FOUR + ";  |man !", 4);
        });
        s.says("Of one place the least.", () -> {
            hillFails("|sheeps 1", 0);
            hillFails("hill 1 2" + EIGHT + ";|sheeps", 0);
            hillFails("hill 1 2" + Made.FOUR + ";|many", 0);
            ruleFails("go 1" + ";go 1".repeat(11) + ";|if", 0);
            ruleFails("go 1" + "+1".repeat(59) + "+|123456", 1);
            ruleFails("go 1" + "+1".repeat(59) + "+|hill", 0);
            ruleFails("go 1" + "+1".repeat(59) + "+|", 0);
            ruleFails("go 1" + "+1".repeat(58) + " if 1 |]", 0);
            ruleFails("go 1 if " + "[".repeat(10) + "|nota", 0);
        });
    }

    private void leaders() {
        s.says("till one that follows nobody; are they come round, the least of those that go round", () -> {
            String hill = "hill 1 1" + EIGHT;
            MaySheep x = Made.with(hill);
            for (int n = 0; n < 7; n++) {
                due("leads itself", x.sheep(n, 3), n);
                due("with those ahead of it", x.sheep(n, 4), n + 1);
                x.teach(n, n + 1);
            }
            for (int n = 0; n < 8; n++) {
                due("a way of all", x.sheep(n, 3), 7);
                due("with all", x.sheep(n, 4), 8);
            }
            x.teach(7, 0);
            for (int n = 0; n < 8; n++) {
                due("a ring of all", x.sheep(n, 3), 0);
            }
            x.teach(7, 6);
            for (int n = 0; n < 8; n++) {
                due("a way of six to a ring of two", x.sheep(n, 3), 6);
            }
            x.teach(7, 5);
            due("a ring of three, come from 0", x.sheep(0, 3), 5);
            due("one leader", x.count(8), 32);
            x.teach(0, NONE);
            due("apart", x.sheep(0, 3), 0);
            due("two leaders", x.count(8), 33);
        });
    }

    private static int chosen(String rule) {
        return Made.after(1, "hill 1 1;sheep 1" + Made.FOUR, rule).sheep(0, 1);
    }

    private void choices() {
        s.says("A MAY: (1) LEADERS by numbers, all by how all is as it begins", () -> {
            MaySheep x = Made.with("hill 1 9" + EIGHT + ";man 9 0", "go 1 if flock=0");
            due("all see none", x.may(), 8);
            due("all see eight", x.may(), 8);
            same("so none stays", Made.whose(x), "-1 -1 -1 -1 -1 -1 -1 -1");
        });
        s.says("each chooses the MAN for whom the SUM of the RULE IN FORCE's first CLAUSE without a TEST, or whose TEST"
            + " holds (0 without), is greatest, if it is above 0, of several the least", () -> {
            String[] rules = {"go 0", "go 1", "go 0-1", "go man", "go 3-man", "go man-3", "go 5", "go 1 if man>=2",
                "go 0;go 5", "go 1 if man=1;go 7 if man=1;go 2 if man=2", "go 9 if man=4", "go 0 if man=3;go man",
                "go 0-5 if man<3;go 1", "go 2 if man%2=1;go 1", "go 1 if 1=2;go 2 if 2=1", "go 1 if man=3;go 0",
                "go 1 if 1=2;go 1 if man=3"};
            int[] want = {NONE, 0, NONE, 3, 0, NONE, 0, 2, NONE, 2, NONE, 2, 3, 1, NONE, 3, 3};
            for (int i = 0; i < rules.length; i++) {
                due(rules[i], chosen(rules[i]), want[i]);
            }
        });
        s.says("without a RULE whom it LIKES most, if that is above 0, likewise; else nobody", () -> {
            String hill = "hill 1 1;sheep 1" + Made.FOUR;
            due("0", Made.after(1, hill).sheep(0, 1), NONE);
            due("told 0", Made.after(1, hill + ";likes 0 0 0").sheep(0, 1), NONE);
            due("1", Made.after(1, hill + ";likes 0 3 1").sheep(0, 1), 3);
            due("the same", Made.after(1, hill + ";likes 0 3 9;likes 0 1 9;likes 0 2 9").sheep(0, 1), 1);
            due("more by 1", Made.after(1, hill + ";likes 0 0 98;likes 0 1 98;likes 0 2 99").sheep(0, 1), 2);
            due("the most", Made.after(1, hill + ";likes 0 0 99;likes 0 3 99").sheep(0, 1), 0);
            due("no men", Made.after(1, "hill 1 1;sheep 1").sheep(0, 1), NONE);
        });
        s.says("All that have this LEADER are his (or nobody's) then.", () -> {
            String hill = "hill 1 1;sheep 1;sheep 1;sheep 1" + Made.FOUR + ";likes 0 0 9;likes 1 1 9;follows 0 2;follows 1 2";
            MaySheep x = Made.with(hill + ";likes 2 3 1");
            x.may();
            same("his", Made.whose(x), "3 3 3");
            x = Made.with(hill);
            x.lead(0, 0);
            x.lead(1, 1);
            due("two become nobody's", x.may(), 2);
            same("nobody's", Made.whose(x), "-1 -1 -1");
        });
    }

    private void shearing() {
        s.says("(2) MEN by numbers: each has PRICE COINS for each WOOL of his SHEEP, of as many SHEEP as GRASS, those of least"
            + " number", () -> {
            String three = ";sheep 1;sheep 2;sheep 4;man 9 0;likes 2 0 9;follows 1 2";
            int[] allThree = {9, 27, 63, 63};
            int[] twoOfThem = {18, 54, 54, 54};
            for (int grass = 1; grass <= 4; grass++) {
                due("grass " + grass, Made.after(1, "hill 9 " + grass + three + ";follows 0 2").man(0, 2), allThree[grass - 1]);
                due("without 0", Made.after(1, "hill 9 " + grass + three).man(0, 2), twoOfThem[grass - 1]);
            }
            MaySheep x = Made.after(1, "hill 1 20" + EIGHT + ";man 9 0;man 9 0;likes 7 1 9");
            due("no sheep", x.man(0, 2), 0);
            due("one", x.man(1, 2), 1);
        });
        s.says("(99999 COINS at most)", () -> {
            String hill = "hill 9 20" + ";sheep 9".repeat(8) + ";man 9 0;man 9 0";
            MaySheep x = Made.after(154, hill, "go 1");
            due("below", x.man(0, 2), 99792);
            due("asked", x.ahead(0, 1, 1), 99999);
            due("asked", x.ahead(0, 60, 1), 99999);
            x.may();
            due("at most", x.man(0, 2), 99999);
            x.may();
            due("at most, again", x.man(0, 2), 99999);
            x.force(Feeding.rule(x, "go man"));
            x.may();
            due("each his own", x.count(9), 99999 + 648);
            x = Made.after(154, hill.replace("sheep 9", "sheep 1") + ";likes 0 0 1", "go 1");
            due("less wool, no bound", x.man(0, 2), 154 * 72);
        });
        s.says("(3) Has he more SHEEP than HANDS, each of his LIKES him as many less as he has too many (0 at least)", () -> {
            String hill = "hill 1 1" + EIGHT + ";man # 8;man 9 9;likes 0 0 7;likes 1 0 6;likes 2 0 8;likes 3 0 99;likes 4 0 1"
                + ";likes 2 1 5";
            same("as many as hands", Made.likes(Made.after(1, hill.replace("#", "8"), "go 1"), 0), "8 7 9 99 2 1 1 1");
            same("fewer", Made.likes(Made.after(1, hill.replace("#", "9"), "go 1"), 0), "8 7 9 99 2 1 1 1");
            same("one too many", Made.likes(Made.after(1, hill.replace("#", "7"), "go 1"), 0), "6 5 7 98 0 0 0 0");
            same("seven too many", Made.likes(Made.after(1, hill.replace("#", "1"), "go 1"), 0), "0 0 1 92 0 0 0 0");
            same("not another man", Made.likes(Made.after(1, hill.replace("#", "1"), "go 1"), 1), "0 0 5 0 0 0 0 0");
            same("not those of others", Made.likes(Made.after(1, hill.replace("#", "1"), "go 1 if sheep>2"), 0),
                "7 6 8 95 0 0 0 0");
        });
        s.says("else each of his LIKES him more by SALT parted by how many are his, downwards (99 at most)", () -> {
            String hill = "hill 1 1" + EIGHT + ";man 9 #;likes 0 0 98;likes 1 0 99;likes 2 0 97";
            int[] salts = {0, 7, 8, 15, 16, 20};
            String[] want = {"98 99 97 0 0 0 0 0", "98 99 97 0 0 0 0 0", "99 99 98 1 1 1 1 1", "99 99 98 1 1 1 1 1",
                "99 99 99 2 2 2 2 2", "99 99 99 2 2 2 2 2"};
            for (int i = 0; i < salts.length; i++) {
                same("salt " + salts[i], Made.likes(Made.after(1, hill.replace("#", "" + salts[i]), "go 1"), 0), want[i]);
            }
            same("one alone", Made.likes(Made.after(1, hill.replace("#", "20"), "go 1 if sheep=7"), 0), "98 99 97 0 0 0 0 20");
            same("none", Made.likes(Made.after(1, hill.replace("#", "20"), "go 0"), 0), "98 99 97 0 0 0 0 0");
            same("three", Made.likes(Made.after(1, hill.replace("#", "20"), "go 1 if sheep>4"), 0), "98 99 97 0 0 6 6 6");
        });
        s.says("YEAR is 1 more (999 at most by hand; MAYS that are asked go on beyond).", () -> {
            MaySheep x = Made.with("hill 1 1;sheep 1;man 1 0", "go 1 if year>=1000");
            due("0", x.count(6), 0);
            x.may();
            due("1", x.count(6), 1);
            // More calls than are promised, but no other way leads to that year.
            for (int n = 2; n <= 998; n++) {
                x.may();
            }
            due("in 998", x.may(), 0);
            due("999", x.count(6), 999);
            due("in 999", x.may(), NONE);
            due("still", x.count(6), 999);
            due("that of 999", x.ahead(0, 1, 0), NONE);
            due("that of 1000", x.ahead(0, 2, 0), 0);
            due("beyond", x.settled(0), 999);
        });
    }

    private void acts() {
        s.says("SALT (a MAN gives a SHEEP so much, 1 to 20, that he has COINS for: so many COINS less, it LIKES him so much"
            + " more, 99 at most)", () -> {
            String hill = "hill 1 1;sheep 9;man 1 0;likes 0 0 #";
            for (int much = 1; much <= 20; much++) {
                for (int had : new int[] {1, 79, 80, 98, 99}) {
                    MaySheep x = Made.after(3, hill.replace("#", "" + had));
                    due("more", x.salt(0, 0, much), Math.min(99, had + much));
                    due("and so it is", x.likes(0, 0), Math.min(99, had + much));
                    due("paid", x.man(0, 2), 27 - much);
                }
            }
            MaySheep x = Made.after(3, hill.replace("#", "1"));
            due("0", x.salt(0, 0, 0), NONE);
            due("21", x.salt(0, 0, 21), NONE);
            x.salt(0, 0, 9);
            due("19 of 18", x.salt(0, 0, 19), NONE);
            due("18 of 18", x.salt(0, 0, 18), 28);
            due("1 of 0", x.salt(0, 0, 1), NONE);
            due("coins", x.man(0, 2), 0);
        });
        s.says("TEACH (a SHEEP follows another one, whom it did not, or nobody any more, whom it did)", () -> {
            MaySheep x = Made.with("hill 1 1;sheep 1;sheep 1;sheep 1");
            due("nobody, whom it did not", x.teach(0, NONE), -2);
            due("itself", x.teach(0, 0), -2);
            due("another", x.teach(0, 2), NONE);
            due("the same", x.teach(0, 2), -2);
            due("one more", x.teach(0, 1), 2);
            due("round", x.teach(1, 0), NONE);
            due("nobody any more", x.teach(0, NONE), 1);
            due("nobody once more", x.teach(0, NONE), -2);
            due("so many acts", x.count(11), 4);
        });
        s.says("LEAD (a SHEEP becomes a MAN's, whose it was not; others that follow it stay)", () -> {
            MaySheep x = Made.with("hill 1 1;sheep 1;sheep 1;sheep 1;man 1 1;man 1 1;follows 0 1;follows 2 1");
            due("nobody's", x.lead(1, 1), NONE);
            same("others stay", Made.whose(x), "-1 1 -1");
            due("his", x.lead(1, 1), -2);
            due("one that follows", x.lead(0, 0), NONE);
            same("whom it follows stays", Made.whose(x), "0 1 -1");
            due("another one's", x.lead(1, 0), 1);
            due("to nobody", x.lead(1, NONE), -2);
            same("whose", Made.whose(x), "0 0 -1");
        });
        s.says("The last 20 can be UNDONE, the last first.", () -> {
            MaySheep x = Made.with(Made.HILL);
            String[] was = new String[24];
            for (int n = 0; n < 24; n++) {
                was[n] = Made.likes(x, 0) + Made.likes(x, 1) + Made.whose(x) + x.sheep(3, 2) + x.man(1, 2) + x.count(6);
                due("acts", x.count(11), Math.min(n, 20));
                switch (n % 4) {
                    case 0 -> x.may();
                    case 1 -> x.salt(1, 0, 1 + n % 5);
                    case 2 -> x.teach(3, n % 8 == 2 ? NONE : 1);
                    default -> x.lead(3, 0);
                }
            }
            due("20", x.count(11), 20);
            for (int n = 23; n >= 4; n--) {
                due("undone", x.undo(), n - 4);
                same("as it was", Made.likes(x, 0) + Made.likes(x, 1) + Made.whose(x) + x.sheep(3, 2) + x.man(1, 2)
                    + x.count(6), was[n]);
            }
            due("no 21st", x.undo(), NONE);
            due("the first four stay", x.count(6), 1);
        });
    }

    private static int[] ask(MaySheep x) {
        return new int[] {x.ahead(0, 60, 0), x.ahead(1, 9, 1), x.ahead(1, 9, 2), x.won(1, 3, 0), x.won(0, 4, 1),
            x.least(1, 3, 0), x.least(0, 4, 1), x.men(0), x.men(1), x.rests(0, 1, 3, 0), x.rests(1, 0, 20, 1),
            x.stranger(25, 0), x.stranger(99, 1), x.settled(0), x.settled(1), x.shared(0), x.shared(1), x.taught(1, 0),
            x.taught(1, 1), x.taught(0, 2), x.worth(0, 1, 20), x.worth(1, 0, 3), x.ruled(0), x.ruled(1), x.look(0, 0),
            x.look(40, 1), x.frights(10, 40, 30, 0), x.frights(1, 3, 70, 1)};
    }

    private void asked() {
        s.says("(By what is asked nothing changes; MAYS go on by the RULE IN FORCE.)", () -> {
            MaySheep x = Made.busy();
            ask(x);
            same("all is as before", Made.all(x), Made.all(Made.busy()));
            x = Made.busy();
            for (int n = 0; n < 3; n++) {
                same("asked again", Arrays.toString(ask(x)), Arrays.toString(ask(Made.busy())));
            }
            x = Made.with("hill 1 9;man 9 0");
            for (int n = 0; n < 2; n++) {
                same("asked again, of none", x.shared(0) + " " + x.shared(1) + " " + x.men(0) + " " + x.men(1) + " "
                    + x.won(0, 1, 0) + " " + x.settled(1) + " " + x.look(0, 0), "0 0 0 0 -2 1 -2");
            }
            x = Made.with("hill 1 9;sheep 1;sheep 2;man 9 0;man 9 0;likes 0 0 9;likes 1 0 9", "go man");
            same("by the rule", x.ahead(0, 1, 0) + " " + x.won(1, 2, 0) + " " + x.taught(1, 0) + " " + x.ahead(1, 2, 1) + " "
                + x.won(0, 1, 0) + " " + x.frights(1, 1, 0, 1), "1 0 2 6 -2 3");
            x.force(NONE);
            same("without one", x.ahead(0, 1, 0) + " " + x.won(1, 2, 0) + " " + x.taught(1, 0) + " " + x.ahead(1, 2, 1) + " "
                + x.won(0, 1, 0) + " " + x.frights(1, 1, 0, 1), "0 2 0 0 0 3");
        });
        s.says("AHEAD n MAYS (0 to 60): whose a SHEEP is (NONE: nobody's)", () -> {
            MaySheep x = Made.with("hill 1 9;sheep 1;man 9 0", "go 1 if year=0 or year=59");
            int[] want = {NONE, 0, NONE, NONE, 0};
            int[] mays = {0, 1, 2, 59, 60};
            for (int i = 0; i < mays.length; i++) {
                due("whose, " + mays[i], x.ahead(0, mays[i], 0), want[i]);
            }
            due("coins of none", x.ahead(0, 0, 1), 0);
            due("coins of 59", x.ahead(0, 59, 1), 1);
            due("coins of 60", x.ahead(0, 60, 1), 2);
            due("how many", x.ahead(0, 60, 2), 1);
            due("61", x.ahead(0, 61, 0), -2);
            due("-1", x.ahead(0, -1, 0), -2);
            x.lead(0, 0);
            due("now", x.ahead(0, 0, 0), 0);
        });
    }

    private void wonAndLeast() {
        String eight = "hill 1 9" + EIGHT + ";man 9 0;man 9 0";
        s.says("WON for a MAN and so many SHEEP (1 to 8): the fewest SHEEP that must LIKE him 99 from now on, so that after a"
            + " MAY from now he has as many or more: how many; of several sets the least as bits", () -> {
            MaySheep x = Made.with(eight);
            for (int many = 1; many <= 8; many++) {
                due("so many", x.won(1, many, 0), many);
                due("least bits", x.won(1, many, 1), (1 << many) - 1);
            }
            due("0", x.won(1, 0, 0), NONE);
            due("9", x.won(1, 9, 0), NONE);
            x = Made.with(eight + ";follows 5 7;follows 6 7;follows 1 0");
            due("as many or more", x.won(0, 2, 0), 1);
            due("least bits", x.won(0, 2, 1), 1);
            due("fewest ahead of least bits", x.won(0, 3, 1), 128);
            due("two", x.won(0, 4, 1), 128 + 1);
            x = Made.with(eight + ";likes 0 0 99;likes 1 0 98;likes 2 1 1");
            due("99 is not more than 99", x.won(1, 8, 0), -2);
            due("but more than 98", x.won(1, 2, 1), 2);
            due("has them", x.won(1, 1, 0), 0);
            due("by none", x.won(1, 1, 1), 0);
            x = Made.with(eight, "go 1 if likes<99 and man=0 and sheep<2");
            due("by the rule", x.won(0, 2, 0), 0);
            due("by the rule", x.won(0, 3, 0), -2);
            x = Made.with(eight, "go 1 if likes=99 and flock=1");
            due("by flocks, none", x.won(0, 1, 0), -2);
            x.lead(5, 0);
            due("by flocks", x.won(0, 2, 1), 3);
        });
        s.says("LEAST for a MAN and so many SHEEP (1 to 8), without a RULE: the least that SHEEP, all together, must LIKE him"
            + " more now than they do (99 each at most), so that he has as many or more after a MAY: how much; the set of"
            + " those that must, of several the least as bits", () -> {
            MaySheep x = Made.with(eight);
            for (int many = 1; many <= 8; many++) {
                due("so much", x.least(1, many, 0), many);
                due("least bits", x.least(1, many, 1), (1 << many) - 1);
            }
            due("0", x.least(1, 0, 0), NONE);
            due("9", x.least(1, 9, 0), NONE);
            String liked = eight + ";likes 0 0 99;likes 1 0 98;likes 2 0 3;likes 3 0 3;likes 3 1 3";
            x = Made.with(liked, "go 5");
            due("one more than the lesser", x.least(1, 5, 0), 1 + 4);
            due("the set", x.least(1, 5, 1), 8 + 16 + 32 + 64 + 128);
            due("up to 99", x.least(1, 7, 0), 1 + 4 + 4 + 99);
            due("not above 99", x.least(1, 8, 0), -2);
            due("not above 99", x.least(1, 8, 1), -2);
            due("one more than nothing", x.least(0, 8, 0), 4);
            due("of those that like nobody", x.least(0, 8, 1), 16 + 32 + 64 + 128);
            due("a man alone", Made.with("hill 1 9;sheep 1;man 9 0").least(0, 1, 0), 1);
            String four = "hill 1 9;sheep 1" + Made.FOUR + ";likes 0 0 7;likes 0 1 9;likes 0 2 8;likes 0 3 3";
            int[] more = {2, 0, 2, 7};
            for (int man = 0; man < 4; man++) {
                due("of four", Made.with(four).least(man, 1, 0), more[man]);
            }
            due("has them", x.least(0, 4, 0), 0);
            due("has them", x.least(0, 4, 1), 0);
            x = Made.with(eight + ";likes 0 1 99;likes 1 1 2;likes 2 1 1;likes 3 1 1;follows 4 0;follows 5 0;follows 6 0;follows 7 0");
            due("the lesser needs as much", x.least(0, 5, 0), 99);
            due("its set", x.least(0, 5, 1), 1);
            due("two of 1 ahead of one of 2 and one of 1", x.least(0, 2, 1), 4 + 8);
            due("of several", x.least(0, 1, 1), 4);
        });
    }

    private void menRestsStranger() {
        s.says("the fewest MEN whose HANDS and whose GRASS are enough for all SHEEP (of each MAN as many as the lesser of HANDS"
            + " and GRASS): how many; of several sets the least as bits", () -> {
            String men = EIGHT + ";man 9 0;man 4 0;man 8 0;man 7 0";
            due("7 is not enough for 8", Made.with("hill 1 20" + men).men(0), 1);
            due("the first that is", Made.with("hill 1 20" + men).men(1), 1);
            due("grass 8", Made.with("hill 1 8" + men).men(1), 1);
            due("grass 7", Made.with("hill 1 7" + men).men(0), 2);
            due("grass 7", Made.with("hill 1 7" + men).men(1), 3);
            due("grass 4", Made.with("hill 1 4" + men).men(1), 3);
            due("grass 3", Made.with("hill 1 3" + men).men(1), 7);
            due("grass 2", Made.with("hill 1 2" + men).men(0), 4);
            due("grass 2", Made.with("hill 1 2" + men).men(1), 15);
            due("grass 1", Made.with("hill 1 1" + men).men(0), -2);
            due("grass 1", Made.with("hill 1 1" + men).men(1), -2);
            due("fewest ahead of least bits", Made.with("hill 1 20;sheep 1;sheep 1;man 1 0;man 1 0;man 2 0").men(1), 4);
            due("none for none", Made.with("hill 1 1;man 1 0").men(0), 0);
            due("no men", Made.with("hill 1 1;sheep 1").men(0), -2);
        });
        s.says("RESTS of two MEN for n MAYS (1 to 20): each has SALT 0, 5, 10, 15 or 20 in place of his, all else as it is:"
            + " each has his COINS then less n times his SALT: twos of which neither would have more by another one", () -> {
            // Whoever gives just 20 has the sheep, which brings 81 a year.
            String hill = "hill 9 9;sheep 9;man 1 7;man 1 3";
            for (int salt = 0; salt <= 20; salt += 5) {
                MaySheep x = Made.with(hill, "go 1 if man=0 and salt=" + salt);
                for (int n : new int[] {1, 20}) {
                    same("just " + salt, x.rests(0, 1, n, 0) + " " + x.rests(0, 1, n, 1) + " " + x.rests(0, 1, n, 2),
                        "1 " + salt + " 0");
                    same("told round", x.rests(1, 0, n, 0) + " " + x.rests(1, 0, n, 1) + " " + x.rests(1, 0, n, 2),
                        "1 0 " + salt);
                }
                due("0", x.rests(0, 1, 0, 0), NONE);
                due("21", x.rests(0, 1, 21, 0), NONE);
            }
            for (int salt : new int[] {1, 4, 6, 7, 19, 25}) {
                due("never " + salt, Made.with(hill, "go 1 if man=0 and salt=" + salt).rests(0, 1, 1, 1), 0);
            }
            // 5 of salt for a sheep of 5 coins: as much, not more.
            MaySheep x = Made.with("hill 5 9;sheep 1;man 1 7;man 1 3", "go 1 if man=0 and salt=5");
            due("as much is a rest", x.rests(0, 1, 1, 0), 2);
            x = Made.with("hill 6 9;sheep 1;man 1 7;man 1 3", "go 1 if man=0 and salt=5");
            due("more is none", x.rests(0, 1, 1, 0), 1);
            due("by n Mays", x.rests(0, 1, 20, 1), 5);
            x = Made.with("hill 4 9;sheep 1;man 1 7;man 1 3", "go 1 if man=0 and salt=5");
            due("by n Mays", x.rests(0, 1, 20, 1), 0);
        });
        s.says("how many; the first (by the first one, then the second one)", () -> {
            String[] rules = {"go salt", "go salt if sheep=man;go salt/2", "go likes", "go likes+salt-flock", "go salt%10+1",
                "go 20-salt", "go salt+mine*6", "go salt*2+likes if flock<2;go salt"};
            for (String rule : rules) {
                for (String land : new String[] {"hill 3 9;sheep 5", "hill 2 2;sheep 4;sheep 3;sheep 5"}) {
                    restsAreAsTold(land, rule);
                }
            }
            String hill = "hill 5 9;sheep 1;sheep 1;man 1 7;man 1 3";
            MaySheep x = Made.with(hill, "go 1 if sheep=man and salt=5");
            same("both, either or none", x.rests(0, 1, 1, 0) + " " + x.rests(0, 1, 1, 1) + " " + x.rests(0, 1, 1, 2), "4 0 0");
            // Who gives 5 alone has both sheep for 6 coins; the other one would have but one of them for his 5.
            x = Made.with("hill 1 9;sheep 3;sheep 3;man 1 7;man 1 3", "go salt if sheep=man;go salt/2");
            same("0 and 5 ahead of 5 and 0", x.rests(0, 1, 1, 0) + " " + x.rests(0, 1, 1, 1) + " " + x.rests(0, 1, 1, 2), "2 0 5");
            same("told round", x.rests(1, 0, 1, 0) + " " + x.rests(1, 0, 1, 1) + " " + x.rests(1, 0, 1, 2), "2 0 5");
        });
        s.says("STRANGER so LIKED (1 to 99) by all SHEEP: which LEADERS LIKE nobody as much or more", () -> {
            MaySheep x = Made.with("hill 1 1;sheep 1;sheep 2;sheep 4;sheep 8;man 1 1;man 1 1;likes 0 1 1;likes 1 0 99;likes 1 1 5;"
                + "likes 2 0 98;likes 3 1 99;follows 3 0");
            int[] liked = {1, 2, 98, 99};
            String[] want = {"0 0", "2 9", "2 9", "3 13"};
            for (int i = 0; i < liked.length; i++) {
                same("liked " + liked[i], x.stranger(liked[i], 0) + " " + x.stranger(liked[i], 1), want[i]);
            }
            due("0", x.stranger(0, 0), NONE);
            due("100", x.stranger(100, 0), NONE);
            x = Made.with("hill 1 1;sheep 1;man 1 1");
            due("0 is not as much as 1", x.stranger(1, 0), 1);
            x = Made.with("hill 1 1;sheep 1" + Made.FOUR + ";likes 0 3 50");
            due("less than the fourth", x.stranger(50, 0), 0);
            due("more than the fourth", x.stranger(51, 0), 1);
        });
    }

    /** Rests are those of hills that were told with such salt. */
    private void restsAreAsTold(String land, String rule) {
        String hill = land + ";man 1 #;man 2 @;likes 0 0 6;likes 0 1 5";
        for (int n : new int[] {1, 2, 3, 20}) {
            int[][][] has = new int[2][5][5];
            for (int two = 0; two < 25; two++) {
                int a = two / 5;
                int b = two % 5;
                MaySheep x = Made.with(hill.replace("#", "" + 5 * a).replace("@", "" + 5 * b), rule);
                has[0][a][b] = x.ahead(0, n, 1) - n * 5 * a;
                has[1][a][b] = x.ahead(1, n, 1) - n * 5 * b;
            }
            int many = 0;
            String first = "-2 -2";
            for (int two = 0; two < 25; two++) {
                boolean rests = true;
                for (int c = 0; c < 5; c++) {
                    rests &= has[0][c][two % 5] <= has[0][two / 5][two % 5] && has[1][two / 5][c] <= has[1][two / 5][two % 5];
                }
                first = rests && many == 0 ? 5 * (two / 5) + " " + 5 * (two % 5) : first;
                many += rests ? 1 : 0;
            }
            MaySheep x = Made.with(hill.replace("#", "11").replace("@", "12"), rule);
            same(land + ", " + rule + ", " + n, x.rests(0, 1, n, 0) + " " + x.rests(0, 1, n, 1) + " " + x.rests(0, 1, n, 2),
                many + " " + first);
        }
    }

    private static String settled(MaySheep x) {
        return x.settled(0) + " " + x.settled(1);
    }

    private void settledAndShared() {
        s.says("SETTLED: the first YEAR, this one the first, of 40, at whose begin all SHEEP are whose they are at the begin"
            + " of a later one, 40 MAYS from now at most; how much later the first such is", () -> {
            String hill = "hill 1 1;sheep 1;sheep 1;sheep 1;man 1 0;man 1 0;man 1 0;man 1 0";
            same("this year, 40 later", settled(Made.with(hill, DIGITS.replace("N", "39"))), "0 40");
            same("not 41 later", settled(Made.with(hill, DIGITS.replace("N", "40"))), "-2 -2");
            same("this year, 39 later", settled(Made.with(hill, DIGITS.replace("N", "38"))), "0 39");
            MaySheep x = Made.after(1, hill, DIGITS.replace("N", "40"));
            same("from the next one on", settled(x), "-2 -2");
            x.may();
            same("two years of nobody within 40", settled(x), "41 1");
            x = Made.with(hill, "go 1 if year=39 and [man=2 and sheep%2=0 or man=1 and sheep=1];" + DIGITS.replace("N", "39"));
            same("the last year of 40", settled(x), "39 1");
            same("all at once", settled(Made.with(hill, "go 0")), "0 1");
            same("the first later one", settled(Made.with(hill, "go 1 if year%2=0")), "0 2");
            same("the first year ahead of the next one", settled(Made.with(hill, "go 1 if year<5")), "0 6");
            same("one sheep alone", settled(Made.with(hill, "go 1 if sheep=2 and year<1")), "0 2");
            same("no sheep", settled(Made.with("hill 1 1")), "0 1");
        });
        s.says("SHARED: the SHEEP in two parts whose WOOL differs least, no SHEEP apart from its LEADER: how much; the part"
            + " with SHEEP 0 in it, of several the least as bits", () -> {
            String[] hills = {"hill 1 1;sheep 7", "hill 1 1;sheep 7;sheep 2", "hill 1 1;sheep 7;sheep 2;follows 0 1",
                "hill 1 1" + EIGHT, "hill 1 1;sheep 1;sheep 1;sheep 1;sheep 1;follows 1 3",
                "hill 1 1" + ";sheep 9".repeat(8) + ";follows 0 1;follows 1 2;follows 2 3;follows 3 4;follows 4 5;"
                + "follows 5 6;follows 6 7", "hill 1 1;sheep 1;sheep 9;sheep 9;sheep 1", "hill 1 1;sheep 1;sheep 2;sheep 1",
                "hill 1 1;sheep 1;sheep 5;sheep 1;sheep 1", "hill 1 1"};
            int[] much = {7, 5, 9, 0, 0, 72, 0, 0, 2, 0};
            int[] part = {1, 1, 3, 15, 5, 255, 3, 5, 13, 0};
            for (int i = 0; i < hills.length; i++) {
                due(hills[i], Made.with(hills[i]).shared(0), much[i]);
                due(hills[i], Made.with(hills[i]).shared(1), part[i]);
            }
        });
    }

    private static String taught(MaySheep x, int man) {
        return x.taught(man, 0) + " " + x.taught(man, 1) + " " + x.taught(man, 2);
    }

    private void taughtAndWorth() {
        s.says("TAUGHT for a MAN: a SHEEP that is to follow another one, whom it does not, or nothing, now, so that he has"
            + " most SHEEP after a MAY; of several nothing, then the least SHEEP, then the least other one", () -> {
            String hill = "hill 1 9;sheep 1;sheep 1;sheep 1;man 9 0";
            same("nobody's", taught(Made.with(hill), 0), "0 -1 -1");
            same("all are his", taught(Made.with(hill, "go 1"), 0), "3 -1 -1");
            same("the least sheep", taught(Made.with(hill + ";likes 2 0 1"), 0), "2 0 2");
            same("the least other one", taught(Made.with(hill + ";likes 2 0 1;likes 1 0 1"), 0), "3 0 1");
            same("the last to the first", taught(Made.with(hill + ";likes 0 0 1;likes 1 0 1"), 0), "3 2 0");
            same("with those that follow", taught(Made.with(hill + ";likes 0 0 1;follows 2 1"), 0), "3 1 0");
            same("not whom it does", taught(Made.with("hill 1 9;sheep 1;sheep 1;man 9 0;likes 0 0 1;follows 1 0"), 0), "2 -1 -1");
            same("to follow nobody is not taught", taught(Made.with("hill 1 9;sheep 1;sheep 1;man 9 0;likes 0 0 1;follows 0 1"), 0),
                "2 1 0");
            same("nor to follow itself", taught(Made.with(hill + ";likes 1 0 5;follows 1 0"), 0), "0 -1 -1");
            same("one sheep", taught(Made.with("hill 1 9;sheep 1;man 9 0"), 0), "0 -1 -1");
            same("no sheep", taught(Made.with("hill 1 9;man 9 0"), 0), "0 -1 -1");
        });
        s.says("WORTH of a SHEEP for a MAN whose it is not, for n MAYS (1 to 20): by how many COINS he has more then", () -> {
            MaySheep x = Made.with("hill 9 9;sheep 9;sheep 1;man 9 0;man 9 0", "go 1 if mine=1");
            due("1", x.worth(0, 1, 1), 81);
            due("20", x.worth(0, 1, 20), 1620);
            due("0", x.worth(0, 1, 0), -100000);
            due("21", x.worth(0, 1, 21), -100000);
            x.lead(0, 1);
            due("whose it is", x.worth(0, 1, 1), -100000);
            due("from another one", x.worth(0, 0, 2), 162);
            due("nothing", Made.with("hill 9 9;sheep 9;man 9 0").worth(0, 0, 20), 0);
            due("less", Made.with("hill 9 9;sheep 9;man 9 0", "go 1 if mine=0").worth(0, 0, 1), -81);
            due("no sheep left alone", Made.with("hill 9 9;sheep 9;man 9 0", "go 1 if mine=0").worth(0, 0, 2), 0);
        });
    }

    private void notes() {
        s.says("NOTES 0 to 9, told: behind the n-th MAY of all (0 to 40) a SHEEP was a MAN's, or nobody's (NONE).", () -> {
            String hill = "hill 1 9;sheep 1;sheep 1;man 9 0";
            for (int n = 0; n <= 40; n++) {
                MaySheep x = Made.with(hill, "go 1 if year=" + n);
                due("told", x.note(n, 1, 0), 1);
                due("so by the rule alone", x.ruled(0) * 10 + x.ruled(1), 10);
                x.note(n, 0, NONE);
                due("not nobody's", x.ruled(0), 0);
                x.note(NONE, 0, 0);
                due("nobody's", x.note(n, 1, NONE), 1);
                due("so by none alone", x.ruled(0) * 10 + x.ruled(1), 9);
            }
            MaySheep x = Made.with(hill);
            due("-2", x.note(-2, 0, 0), -2);
            due("41", x.note(41, 0, 0), -2);
            for (int n = 1; n <= 10; n++) {
                due("ten", x.note(n, 0, n < 10 ? NONE : 0), n);
            }
            due("the tenth counts", x.ruled(0), 0);
            due("no more", x.note(0, 0, NONE), -2);
        });
        s.says("RULED: which of the RULES, and of none, so that from the begin on, all as the text told it, all NOTES are so:"
            + " how many; the first (none ahead of 0, told as NONE).", () -> {
            MaySheep x = Made.with("hill 1 9;sheep 1;man 9 0;likes 0 0 5");
            due("none", x.ruled(0) * 10 + x.ruled(1), 9);
            for (int n = 0; n < 6; n++) {
                Feeding.rule(x, "go " + n % 2);
                due("how many", x.ruled(0), n + 2);
            }
            due("none is the first", x.ruled(1), NONE);
            x.may();
            x.salt(0, 0, 1);
            x.lead(0, 0);
            x.force(0);
            due("from the begin, whatever is", x.ruled(0), 7);
            x.note(0, 0, NONE);
            same("even ones", x.ruled(0) + " " + x.ruled(1), "3 0");
            x.note(1, 0, 0);
            same("no such", x.ruled(0) + " " + x.ruled(1), "0 -2");
            x.note(NONE, 0, 0);
            x.note(40, 0, 0);
            same("odd ones and none", x.ruled(0) + " " + x.ruled(1), "4 -1");
            x = Made.with("hill 1 9;sheep 1;man 9 0", "go 0", "go 0", "go 0", "go 0", "go 0", "go 1");
            x.note(0, 0, 0);
            same("the last alone", x.ruled(0) + " " + x.ruled(1), "1 5");
        });
        s.says("LOOK behind the n-th MAY: the SHEEP by whose they were then these part best: the most alike are fewest, of"
            + " several the least; how many.", () -> {
            String hill = "hill 1 9;sheep 1;sheep 1;sheep 1" + Made.FOUR;
            MaySheep x = Made.with(hill);
            same("none alone", x.look(0, 0) + " " + x.look(0, 1), "0 1");
            Feeding.rule(x, "go 1 if sheep=2");
            same("the last parts", x.look(0, 0) + " " + x.look(0, 1), "2 1");
            Feeding.rule(x, "go 1 if sheep=1 and year=40");
            same("two alike", x.look(0, 0) + " " + x.look(0, 1), "2 2");
            same("of several the least", x.look(40, 0) + " " + x.look(40, 1), "1 2");
            Feeding.rule(x, "go man if sheep=2");
            same("three by one", x.look(0, 0) + " " + x.look(0, 1), "2 2");
            Feeding.rule(x, "go 1 if sheep=2 and man=1");
            Feeding.rule(x, "go 1 if sheep=2 and man=2");
            same("five kinds", x.look(0, 0) + " " + x.look(0, 1), "2 2");
            x.note(0, 2, NONE);
            same("those that are so", x.look(0, 0) + " " + x.look(0, 1), "0 2");
            x.note(40, 1, 0);
            same("one that is so", x.look(0, 0) + " " + x.look(0, 1), "0 1");
            x = Made.with(hill, "go man", "go man", "go man", "go man", "go man", "go man");
            same("six by the last man", x.look(40, 0) + " " + x.look(40, 1), "0 6");
            x = Made.with(hill, "go 0", "go 0", "go 0", "go 0", "go 0", "go 0");
            same("all seven alike", x.look(40, 0) + " " + x.look(40, 1), "0 7");
            due("-1", x.look(-1, 0), NONE);
            due("41", x.look(41, 0), NONE);
        });
    }

    private static long next(long x) {
        return BigInteger.valueOf(x).multiply(BigInteger.valueOf(1103515245)).add(BigInteger.valueOf(12345))
            .mod(BigInteger.valueOf(2147483648L)).longValue();
    }

    private void draws() {
        s.says("DRAWS: x (0 to 2147483647; 0 at first) becomes x * 1103515245 + 12345, of 2147483648 the rest; a DRAW is x /"
            + " 65536.", () -> {
            MaySheep x = Made.with("hill 1 9;sheep 1;man 9 0", "go 1");
            due("at first", x.count(12), 0);
            for (int from : new int[] {0, 1, 2147483647, 2147483646, 1073741824, 65535, 65536}) {
                x.seed(from);
                due("taken", x.count(12), from);
                long draws = from;
                for (int n = 1; n <= 20; n++) {
                    draws = next(draws);
                    int draw = (int) (draws / 65536 % 100);
                    due("not below", x.frights(1, n, draw, 0), 0);
                    due("below", x.frights(1, n, draw + 1, 0), 1);
                }
            }
            due("below 0", x.seed(-1), NONE);
            due("below 0", x.seed(-2147483648), NONE);
        });
        s.says("FRIGHTS m times (1 to 10) n MAYS (1 to 40) from now on: ahead of each, of each LEADER, by numbers, a DRAW mod"
            + " 100: below p (0 to 100) it chooses nobody at this one", () -> {
            MaySheep x = Made.with("hill 1 9" + EIGHT + ";man 9 0;follows 7 0", "go 1");
            due("0 is below none", x.frights(10, 40, 0, 0), 0);
            due("all is below 100", x.frights(10, 40, 100, 0), 80);
            due("least of all", x.frights(1, 1, 100, 0), 8);
            int[][] wrong = {{0, 1, 1}, {11, 1, 1}, {1, 0, 1}, {1, 41, 1}, {1, 1, -1}, {1, 1, 101}};
            for (int[] w : wrong) {
                due("without these", x.frights(w[0], w[1], w[2], 0), NONE);
            }
            for (int draw : new int[] {0, 1, 50, 98, 99}) {
                x.seed(seedOf(draw));
                for (int p : new int[] {0, 1, 2, 50, 51, 98, 99, 100}) {
                    due("draw " + draw + ", p " + p, x.frights(1, 1, p, 0), frightened(seedOf(draw), p));
                }
            }
        });
        s.says("how many SHEEP are nobody's then; COINS of all MEN, all together (nothing stays; x as it was)", () -> {
            MaySheep x = Made.busy();
            x.frights(10, 40, 100, 0);
            x.frights(10, 40, 50, 1);
            same("nothing stays", Made.all(x), Made.all(Made.busy()));
            x = Made.with("hill 9 20" + ";sheep 9".repeat(8) + Made.FOUR, "go 1");
            due("all together", x.frights(10, 40, 0, 1), 10 * 40 * 648);
            due("once", x.frights(1, 1, 0, 1), 648);
            due("nobody's, the last time of each", x.frights(10, 1, 100, 0), 80);
            due("nobody's coins", x.frights(10, 40, 100, 1), 0);
        });
    }

    /** How many sheep go with those of seven leaders whose draws from x on are below p; two go with the first one. */
    private static int frightened(int x, int p) {
        long draws = x;
        int many = 0;
        for (int n = 0; n < 7; n++) {
            draws = next(draws);
            int go = n == 0 ? 2 : 1;
            many += draws / 65536 % 100 < p ? go : 0;
        }
        return many;
    }

    /** The least x from which the first draw is this one mod 100. */
    private static int seedOf(int draw) {
        for (int x = 0; x < 100000; x++) {
            if (next(x) / 65536 % 100 == draw) {
                return x;
            }
        }
        return NONE;
    }

    private void images() {
        s.says("IMAGES 0 to 3: all but the TAPE and the RULES, as it is (the RULE IN FORCE, too); gone back to, it is as it was"
            + " (these stay; nothing can be UNDONE then).", () -> {
            MaySheep x = Made.with(Made.HILL, "go likes", "go man");
            for (int k = 0; k < 4; k++) {
                x.may();
                x.force(k % 2);
                x.seed(k + 10);
                x.note(k, 0, 0);
                due("made", x.image(k), k + 1);
            }
            due("no 4", x.image(4), NONE);
            due("no -1", x.image(-1), NONE);
            Feeding.rule(x, "go 3");
            Feeding.hill(x, "hill 9 9;sheep 9");
            Feeding.put(x, "go 7");
            for (int k = 3; k >= 0; k--) {
                x.may();
                due("as it was", x.back(k), k + 1);
                same("all", x.count(0) + " " + x.count(5) + " " + x.count(12) + " " + x.count(10), "2 " + k % 2 + " " + (k + 10)
                    + " " + (k + 1));
                due("nothing to be undone", x.undo(), NONE);
                same("tape and rules stay", x.count(13) + " " + x.count(4), "4 3");
            }
            due("no 4", x.back(4), NONE);
            due("no -1", x.back(-1), NONE);
            due("the tape is what it was", x.rule(), 3);
            due("an image stays", x.back(3), 4);
            x = Made.with("hill 1 1;sheep 1;sheep 1;man 1 1;man 1 1;likes 0 0 1", "go 1", "go man");
            x.note(2, 1, 1);
            x.image(0);
            x.note(NONE, 0, 0);
            x.note(0, 1, NONE);
            same("other notes", x.ruled(0) + " " + x.ruled(1), "1 -1");
            x.image(1);
            x.back(0);
            same("its notes", x.ruled(0) + " " + x.ruled(1), "1 1");
            x.back(1);
            same("and those", x.ruled(0) + " " + x.ruled(1), "1 -1");
            x.note(NONE, 0, 0);
            x.note(3, 0, 1);
            x.back(0);
            same("its notes again", x.ruled(0) + " " + x.ruled(1), "1 1");
            // By the rule sheep 0 is man 0's behind May 0 alone.
            int[][] untrue = {{1, 0, 0}, {0, 1, 0}, {0, 0, 1}};
            for (int[] note : untrue) {
                x = Made.with("hill 1 1;sheep 1;sheep 1;man 1 1;man 1 1", "go 1 if sheep=0 and man=0 and year=0");
                x.note(0, 0, 0);
                x.image(2);
                x.note(NONE, 0, 0);
                x.note(note[0], note[1], note[2]);
                due("not so", x.ruled(0), 0);
                x.image(3);
                x.back(2);
                due("so", x.ruled(0), 1);
                x.back(3);
                due("not so", x.ruled(0), 0);
            }
        });
        s.says("The constants: `NONE = -1`: None.", () -> due("NONE", MaySheep.NONE, -1));
    }

    public static void main(String[] args) throws IOException {
        TermsBoundsTest t = new TermsBoundsTest();
        t.s.in("Terms");
        t.hills();
        t.told();
        t.rules();
        t.words();
        t.sums();
        t.limitsOfRules();
        t.faults();
        t.leaders();
        t.choices();
        t.shearing();
        t.acts();
        t.asked();
        t.wonAndLeast();
        t.menRestsStranger();
        t.settledAndShared();
        t.taughtAndWorth();
        t.notes();
        t.draws();
        t.images();
        t.s.areAllHeld("Terms");
        t.checks.exit("bounds of the terms");
    }
}
