/** Each promise of the document, with answers worked out by hand. */
public final class PromisesTest {
    /** Leaders 0, 1 (with 3) and 2; on a May 0 and 2 go to man 0, 1 and 3 to man 1. */
    private static final String HILL = "hill 2 3;sheep 4;sheep 3;sheep 5;sheep 1;man 2 10;man 3 6;"
        + "likes 0 0 30;likes 1 1 20;likes 2 0 10;likes 2 1 10;follows 3 1";
    private static final String SETTLING = "go 1 if man=year%M%4 and sheep=0;go 1 if man=year%M/4%4 and sheep=1;"
        + "go 1 if man=year%M/16 and sheep=2";
    private static final int NONE = MaySheep.NONE;

    private final Checks checks = new Checks();

    private static MaySheep told() {
        return with(HILL);
    }

    private static MaySheep with(String hill, String... rules) {
        MaySheep x = new MaySheep();
        Feeding.hill(x, hill);
        for (String rule : rules) {
            x.force(Feeding.rule(x, rule));
        }
        return x;
    }

    private void due(String what, long got, long want) {
        checks.due(what, got, want);
    }

    private void row(String what, int[] got, int... want) {
        for (int i = 0; i < want.length; i++) {
            due(what + " [" + i + "]", i < got.length ? got[i] : -999, want[i]);
        }
    }

    private static int[] counts(MaySheep x) {
        int[] all = new int[14];
        for (int what = 0; what < 14; what++) {
            all[what] = x.count(what);
        }
        return all;
    }

    private static int[] whose(MaySheep x) {
        int[] all = new int[x.count(2)];
        for (int sheep = 0; sheep < all.length; sheep++) {
            all[sheep] = x.sheep(sheep, 1);
        }
        return all;
    }

    private void newObject() {
        MaySheep x = new MaySheep();
        due("NONE", MaySheep.NONE, -1);
        row("1: new", counts(x), 0, 0, 0, 0, 0, NONE, 0, 0, 0, 0, 0, 0, 0, 0);
        due("1: no sheep", x.sheep(0, 0), -2);
        due("1: no man", x.man(0, 0), NONE);
        due("1: no likes", x.likes(0, 0), NONE);
        due("1: no May", x.may(), NONE);
        due("1: no salt", x.salt(0, 0, 1), NONE);
        due("1: no teaching", x.teach(0, NONE), -2);
        due("1: no leading", x.lead(0, 0), -2);
        due("1: no undoing", x.undo(), NONE);
        due("1: none in force", x.force(NONE), NONE);
        due("1: no rule", x.force(0), -2);
        due("1: never imaged", x.back(0), NONE);
    }

    private void withoutHill() {
        MaySheep x = new MaySheep();
        due("15: no hill", x.ahead(0, 0, 0), -2);
        due("16: no hill", x.won(0, 1, 0), NONE);
        due("17: no hill", x.least(0, 1, 0), NONE);
        due("18: no hill", x.men(0), NONE);
        due("19: no hill", x.rests(0, 1, 1, 0), NONE);
        due("20: no hill", x.stranger(1, 0), NONE);
        due("21: no hill", x.settled(0), NONE);
        due("22: no hill", x.shared(0), NONE);
        due("23: no hill", x.taught(0, 0), -2);
        due("24: no hill", x.worth(0, 0, 1), -100000);
        due("25: no hill", x.note(0, 0, 0), -2);
        due("25: none", x.note(NONE, 0, 0), 0);
        due("26: no hill", x.ruled(0), -3);
        due("27: no hill", x.look(0, 0), NONE);
        due("29: no hill", x.frights(1, 1, 0, 0), NONE);
    }

    private void feedAndEnd() {
        MaySheep x = new MaySheep();
        due("3: below 0", x.end(-1), NONE);
        due("3: not so many", x.end(1), NONE);
        due("3: 0 of none", x.end(0), 0);
        for (int n = 20; n <= 400; n += 20) {
            due("2: feed", x.feed(0x20202020, 0x20202020, 0x20202020, 0x20202020, 0x20202020), n);
        }
        due("2: full", x.feed(0, 0, 0, 0, 0), NONE);
        due("2: full, as it was", x.count(13), 400);
        due("3: all", x.end(400), 400);
        due("3: one more", x.end(401), NONE);
        due("3: cut", x.end(381), 381);
        due("2: one too many", x.feed(0, 0, 0, 0, 0), NONE);
        due("2: none came", x.count(13), 381);
        due("3: cut", x.end(380), 380);
        due("3: least", x.end(-2147483648), NONE);
        due("2: just as many", x.feed(0x20202020, 0x20202020, 0x68696c6c, 0x20392032, 0x30202020), 400);
        due("2: bytes in order, blanks ahead", x.hill(), 0);
        due("2: price", x.count(0), 9);
        due("2: grass", x.count(1), 20);
        due("2: high bytes", x.feed(0x68696c6c, 0x20312032, 0xbba0ff80, -1, -1), 20);
        due("2: a high byte is no sign", x.hill(), -2 - (1 + 8 * 8));
        due("2: behind a tape that is empty", x.feed(0x68696c6c, 0x20312032, 0xbba0ff80, -1, -1), 20);
        due("3: the rest goes", x.end(8), 8);
        due("3: and is a hill", x.hill(), 0);
    }

    private void hill() {
        MaySheep x = told();
        due("4: tape is empty", x.count(13), 0);
        Feeding.rule(x, "go man");
        x.force(0);
        x.seed(77);
        x.may();
        x.note(1, 0, 1);
        Feeding.put(x, "hill 1 1;sheep 0");
        due("4: fault", x.hill(), -2 - (1 + 8 * 15 + 1));
        row("4: all but the tape stays", counts(x), 2, 3, 4, 2, 1, 0, 1, 0, 7, 24, 1, 1, 77, 0);
        due("4: what is undone stays", x.undo(), 0);
        row("4: and is undone", counts(x), 2, 3, 4, 2, 1, 0, 0, 15, 7, 0, 1, 0, 77, 0);
        due("4: once more", Feeding.hill(x, "hill 5 6;sheep 9;sheep 8"), 2);
        row("4: a new hill", counts(x), 5, 6, 2, 0, 1, 0, 0, 3, 3, 0, 0, 0, 77, 0);
        due("4: nothing to be undone", x.undo(), NONE);
        due("4: empty", Feeding.hill(x, ""), -3);
        x = with("hill 1 1;sheep 1;sheep 2;man 1 0;likes 0 0 5;likes 0 0 7;follows 0 1;follows 0 1;likes 1 0 9;"
            + "likes 1 0 0");
        due("4: last told", x.likes(0, 0), 7);
        due("4: last told, 0", x.likes(1, 0), 0);
        due("4: follows", x.sheep(0, 2), 1);
        x = with("hill 1 1;sheep 1;sheep 2;sheep 3;follows 0 1;follows 0 2");
        due("4: last followed", x.sheep(0, 2), 2);
    }

    private void ruleAndForce() {
        MaySheep x = told();
        due("5: a fault", Feeding.rule(x, "go"), -2 - (1 + 8 * 2));
        due("5: none came", x.count(4), 0);
        due("5: tape is empty at a fault", x.count(13), 0);
        due("5: so it has what comes alone", x.feed(0x676f2031, 0x20202020, 0x20202020, 0x20202020, 0x20202020), 20);
        for (int n = 0; n < 6; n++) {
            due("6: not yet", x.force(n), -2);
            due("5: a rule", Feeding.rule(x, "go " + n), n);
            due("5: tape is empty", x.count(13), 0);
            due("6: force", x.force(n), n - 1);
        }
        due("5: a seventh", Feeding.rule(x, "go 7"), NONE);
        due("5: nothing happens", x.count(13), 4);
        due("5: a seventh that is none", Feeding.rule(x, "so"), NONE);
        due("5: nothing happens to its tape", x.count(13), 2);
        due("5: six", x.count(4), 6);
        due("6: no seventh", x.force(6), -2);
        due("6: none such", x.force(-2), -2);
        due("6: as it was", x.count(5), 5);
        due("6: none", x.force(NONE), 5);
        due("6: none was", x.force(3), NONE);
    }

    private void sheepManLikes() {
        MaySheep x = told();
        x.may();
        row("7: sheep 3", new int[] {x.sheep(3, 0), x.sheep(3, 1), x.sheep(3, 2), x.sheep(3, 3), x.sheep(3, 4)},
            1, 1, 1, 1, 2);
        row("7: sheep 2", new int[] {x.sheep(2, 0), x.sheep(2, 1), x.sheep(2, 2), x.sheep(2, 3), x.sheep(2, 4)},
            5, 0, NONE, 2, 1);
        due("7: no sheep 4", x.sheep(4, 0), -2);
        due("7: no sheep -1", x.sheep(-1, 0), -2);
        due("7: no what 5", x.sheep(0, 5), -2);
        due("7: no what -1", x.sheep(0, -1), -2);
        row("8: man 0", new int[] {x.man(0, 0), x.man(0, 1), x.man(0, 2), x.man(0, 3)}, 2, 10, 18, 5);
        row("8: man 1", new int[] {x.man(1, 0), x.man(1, 1), x.man(1, 2), x.man(1, 3)}, 3, 6, 8, 10);
        due("8: no man 2", x.man(2, 0), NONE);
        due("8: no man -1", x.man(-1, 0), NONE);
        due("8: no what 4", x.man(0, 4), NONE);
        due("8: no what -1", x.man(0, -1), NONE);
        due("9: likes", x.likes(2, 1), 10);
        due("9: no sheep", x.likes(4, 0), NONE);
        due("9: no man", x.likes(0, 2), NONE);
        due("9: no sheep -1", x.likes(-1, 0), NONE);
        due("9: no man -1", x.likes(0, -1), NONE);
    }

    private void leaders() {
        // 4 and 5 come to the ring of 1, 3 and 2; 0 follows 4, though its number is less than the ring's.
        MaySheep x = with("hill 1 1;sheep 1;sheep 1;sheep 1;sheep 1;sheep 1;sheep 1;sheep 1;follows 3 2;follows 2 1;"
            + "follows 1 3;follows 4 3;follows 5 4;follows 0 4");
        for (int sheep = 0; sheep < 6; sheep++) {
            due("7: leader in a ring", x.sheep(sheep, 3), 1);
            due("7: how many", x.sheep(sheep, 4), 6);
        }
        due("7: leads itself", x.sheep(6, 3), 6);
        due("30: leaders", x.count(8), 64 + 2);
        x = with("hill 1 1;sheep 1;sheep 1;sheep 1;sheep 1;sheep 1;sheep 1;sheep 1;sheep 1;follows 0 1;follows 1 2;"
            + "follows 2 3;follows 3 4;follows 4 5;follows 5 6;follows 6 7");
        due("7: a long way", x.sheep(0, 3), 7);
        due("30: one leader", x.count(8), 128);
        x.teach(7, 0);
        due("7: a ring of all", x.sheep(7, 3), 0);
        due("30: one leader", x.count(8), 1);
    }

    private void mays() {
        MaySheep x = told();
        due("10: all are another one's", x.may(), 4);
        row("10: whose", whose(x), 0, 1, 0, 1);
        row("10: likes", new int[] {x.likes(0, 0), x.likes(2, 0), x.likes(1, 1), x.likes(3, 1), x.likes(2, 1)},
            35, 15, 23, 3, 10);
        due("10: year", x.count(6), 1);
        due("10: none is another one's", x.may(), 0);
        due("10: coins", x.man(0, 2), 36);
        x = with("hill 1 2;sheep 1;sheep 2;sheep 4;man 2 20;likes 0 0 1;likes 1 0 2;likes 2 0 99");
        due("10: crowded", x.may(), 3);
        row("10: one less each", new int[] {x.likes(0, 0), x.likes(1, 0), x.likes(2, 0)}, 0, 1, 98);
        due("10: of two sheep alone", x.man(0, 2), 3);
        due("10: back to nobody", x.may(), 1);
        row("10: salt parted", new int[] {x.likes(0, 0), x.likes(1, 0), x.likes(2, 0)}, 0, 11, 99);
        due("10: of two sheep", x.man(0, 2), 9);
        x = with("hill 1 9;sheep 1;sheep 1;sheep 1;man 1 0;likes 0 0 1;likes 1 0 5;follows 2 1");
        x.may();
        row("10: 0 at least", new int[] {x.likes(0, 0), x.likes(1, 0), x.likes(2, 0)}, 0, 3, 0);
        x = with("hill 9 20;sheep 9;sheep 9;sheep 9;sheep 9;sheep 9;sheep 9;sheep 9;sheep 9;man 9 7;likes 0 0 1;"
            + "follows 1 0;follows 2 0;follows 3 0;follows 4 0;follows 5 0;follows 6 0;follows 7 0");
        for (int n = 1; n <= 155; n++) {
            x.may();
        }
        due("10: salt of 7 parted by 8", x.likes(0, 0), 1);
        due("10: most coins", x.man(0, 2), 99999);
        due("11: and less again", x.salt(0, 7, 20), 20);
        due("11: and less again", x.man(0, 2), 99979);
        due("15: most coins ahead", x.ahead(0, 1, 1), 99999);
    }

    /** More calls than are promised, but no other way leads to that year. */
    private void lastYear() {
        MaySheep x = with("hill 1 1;sheep 1;man 1 0", "go 1 if year>=1000");
        for (int n = 1; n <= 999; n++) {
            x.may();
        }
        due("10: year 999", x.count(6), 999);
        due("10: no May in it", x.may(), NONE);
        due("10: nothing happens", x.count(6), 999);
        due("15: Mays that are asked go on", x.ahead(0, 1, 0), NONE);
        due("15: beyond", x.ahead(0, 2, 0), 0);
        due("21: beyond", x.settled(0), 999);
    }

    private void words() {
        String[] words = {"sheep=1", "man=1", "likes=23", "salt=6", "hands=3", "flock=2", "mine=1", "led=2", "wool=4",
            "coins=8", "grass=3", "year=1"};
        MaySheep x = told();
        x.may();
        Feeding.rule(x, "go 1 if " + String.join(" and ", words));
        x.force(0);
        due("10: words", x.may(), 2);
        row("10: words", whose(x), NONE, 1, NONE, 1);
        for (int i = 0; i < words.length; i++) {
            x = told();
            x.may();
            String all = String.join(" and ", words);
            String but = all.replace(words[i], words[i].replace("=", "=1+"));
            Feeding.rule(x, "go 1 if " + but);
            x.force(0);
            x.may();
            row("10: but " + words[i], whose(x), NONE, NONE, NONE, NONE);
        }
    }

    /** Whether a test holds for sheep 0 and man 0. */
    private static boolean is(String test) {
        MaySheep x = with("hill 1 1;sheep 1;man 1 0", "go 1 if " + test);
        x.may();
        return x.sheep(0, 1) == 0;
    }

    private void sums() {
        String[] so = {"7/2=3", "7%4=3", "7/0=0", "7%0=0", "1+2*3=7", "2*3+1=7", "9-2-3=4", "24/4/3=2", "2*7%4=2",
            "10-4/2=8", "0-1<0", "00005=5", "99999*99999*99999*15000<0",
            "99999*99999*99999*15000/99999*0+99999*99999*99999*15000%10=0-6", "1<=1", "1>=1", "0<=1", "1>=0", "1>0",
            "not 1=2", "not not 1=1", "[1=1]", "[ 1=2 or 1=1 ] and 1=1", "1=1 or 1=1 and 1=2", "1=2 and 1=2 or 1=1",
            "not 1=2 or 1=1", "not [1=1 and 1=2]", "not [not 1=1]", "1 = 1", "1=1 and 2=2 and 3=3",
            "1=2 or 1=3 or 1=1", "1=2 or 1=1 or 1=3", "99999*99999*99999*15000/2<0-1",
            "0-99999*99999*99999*15000/3>0"};
        String[] notSo = {"1<1", "1>1", "2<=1", "1>=2", "1=2", "not 1=1", "[1=1 or 1=1] and 1=2", "1=1 and 1=2",
            "not 1=1 or 1=2", "not [1=2 or 1=1]", "1=2 or 1=3", "1=1 and 1=2 or 1=3 and 1=1", "0-7%4=1"};
        String deep = "1=2 or 1=1 and [".repeat(9) + "1=1" + "]".repeat(9);
        due("5: so, deep", is(deep) ? 1 : 0, 1);
        due("5: not so, deep", is(deep.replace("1=1]", "1=2]")) ? 1 : 0, 0);
        for (String test : so) {
            due("5: so " + test, is(test) ? 1 : 0, 1);
        }
        for (String test : notSo) {
            due("5: not so " + test, is(test) ? 1 : 0, 0);
        }
    }

    private void choices() {
        String hill = "hill 1 1;sheep 1;man 1 0;man 1 0;man 1 0";
        String[] rules = {"go 0 if man=0;go 5", "go man", "go 0", "go 1-2", "go 7", "go 1 if man=9", "go 3-man",
            "go 5 if man=2;go 6 if man=1;go 6 if man=2", "go 99999*99999*99999*15000 if man=1;go 1 if man=2",
            "go 99999*99999*99999 if man=1;go 99999*99999*99999-1"};
        int[] want = {1, 2, NONE, NONE, 0, NONE, 0, 1, 2, 1};
        for (int i = 0; i < rules.length; i++) {
            MaySheep x = with(hill, rules[i]);
            x.may();
            due("10: " + rules[i], x.sheep(0, 1), want[i]);
        }
        // By how it is as it begins: both leaders see an empty flock.
        MaySheep x = with("hill 1 1;sheep 1;sheep 1;man 1 0", "go 1 if flock=0");
        due("10: all by how it begins", x.may(), 2);
        due("10: and then none", x.may(), 2);
        x = with("hill 1 1;sheep 1;sheep 1;man 1 0;likes 1 0 5;follows 0 1");
        due("10: the other's likings don't matter", x.may(), 2);
        x = with("hill 1 1;sheep 1;sheep 1;man 1 0;likes 0 0 5;follows 0 1");
        due("10: its own likings don't matter", x.may(), 0);
        x = with("hill 1 1;sheep 1;man 1 0;likes 0 0 5", "go 0");
        x.may();
        x.force(NONE);
        due("10: without a rule", x.may(), 1);
    }

    private void salt() {
        MaySheep x = told();
        due("11: no coins", x.salt(0, 0, 1), NONE);
        x.may();
        due("11: more than coins", x.salt(0, 1, 19), NONE);
        due("11: nothing happened", x.count(11), 1);
        due("11: all his coins", x.salt(0, 1, 18), 18);
        due("11: none left", x.man(0, 2), 0);
        due("11: the other one's stay", x.man(1, 2), 8);
        due("11: none left", x.salt(0, 1, 1), NONE);
        due("11: no 0", x.salt(1, 1, 0), NONE);
        due("11: not below 0", x.salt(1, 1, -1), NONE);
        due("11: no sheep", x.salt(1, 4, 1), NONE);
        due("11: no sheep", x.salt(1, -1, 1), NONE);
        due("11: no man", x.salt(2, 0, 1), NONE);
        due("11: no man", x.salt(-1, 0, 1), NONE);
        x = with("hill 9 9;sheep 9;man 1 0;likes 0 0 90");
        x.may();
        due("11: not 21", x.salt(0, 0, 21), NONE);
        due("11: 99 at most", x.salt(0, 0, 20), 99);
        due("11: paid all the same", x.man(0, 2), 61);
        due("11: again", x.salt(0, 0, 1), 99);
        due("30: acts", x.count(11), 3);
    }

    private void teachAndLead() {
        MaySheep x = told();
        due("12: followed nobody", x.teach(0, 1), NONE);
        due("12: does already", x.teach(0, 1), -2);
        due("12: another", x.teach(0, 2), 1);
        due("12: itself", x.teach(0, 0), -2);
        due("12: nobody any more", x.teach(0, NONE), 2);
        due("12: followed nobody anyway", x.teach(0, NONE), -2);
        due("12: no sheep", x.teach(4, 0), -2);
        due("12: no other", x.teach(0, 4), -2);
        due("12: no other -2", x.teach(0, -2), -2);
        due("12: no sheep -1", x.teach(-1, 0), -2);
        due("12: no sheep -1", x.teach(-1, -1), -2);
        due("12: acts", x.count(11), 3);
        due("13: was nobody's", x.lead(1, 0), NONE);
        due("13: is his already", x.lead(1, 0), -2);
        due("13: others stay", x.sheep(3, 1), NONE);
        due("13: was his", x.lead(1, 1), 0);
        due("13: no man", x.lead(1, 2), -2);
        due("13: not nobody", x.lead(1, NONE), -2);
        due("13: no sheep", x.lead(4, 0), -2);
        due("13: no sheep", x.lead(-1, 0), -2);
        due("13: acts", x.count(11), 5);
        due("30: nobody's", x.count(7), 13);
    }

    private void undo() {
        MaySheep x = told();
        Feeding.rule(x, "go man");
        x.may();
        x.salt(0, 1, 5);
        x.teach(3, NONE);
        x.lead(3, 0);
        x.force(0);
        x.seed(9);
        x.note(1, 1, 1);
        due("14: lead", x.undo(), 3);
        due("14: whose it was", x.sheep(3, 1), 1);
        due("14: teach", x.undo(), 2);
        due("14: whom it followed", x.sheep(3, 2), 1);
        due("14: salt", x.undo(), 1);
        due("14: coins", x.man(0, 2), 18);
        due("14: likes", x.likes(1, 0), 0);
        due("14: May", x.undo(), 0);
        row("14: as at first", counts(x), 2, 3, 4, 2, 1, 0, 0, 15, 7, 0, 1, 0, 9, 0);
        due("14: likes as at first", x.likes(0, 0), 30);
        due("14: none more", x.undo(), NONE);
        x.force(NONE);
        for (int n = 0; n < 25; n++) {
            x.may();
        }
        due("30: the last 20", x.count(11), 20);
        for (int n = 19; n >= 0; n--) {
            due("14: undo", x.undo(), n);
        }
        due("14: no more", x.undo(), NONE);
        due("14: year", x.count(6), 5);
        x.may();
        due("14: once more", x.undo(), 0);
    }

    private void ahead() {
        MaySheep x = told();
        due("15: now", x.ahead(0, 0, 0), NONE);
        due("15: whose", x.ahead(3, 1, 0), 1);
        due("15: coins", x.ahead(0, 3, 1), 54);
        due("15: how many", x.ahead(1, 60, 2), 2);
        due("15: 61", x.ahead(1, 61, 2), -2);
        due("15: -1", x.ahead(1, -1, 2), -2);
        due("15: no sheep", x.ahead(4, 1, 0), -2);
        due("15: no man", x.ahead(2, 1, 1), -2);
        due("15: no man", x.ahead(2, 1, 2), -2);
        due("15: no man -1", x.ahead(-1, 1, 2), -2);
        due("15: no what", x.ahead(0, 1, 3), -2);
        due("15: no what", x.ahead(0, 1, -1), -2);
        row("15: nothing changes", counts(x), 2, 3, 4, 2, 0, NONE, 0, 15, 7, 0, 0, 0, 0, 0);
        Feeding.rule(x, "go man*year");
        x.force(0);
        due("15: by the rule", x.ahead(0, 1, 0), NONE);
        due("15: by the rule, as years go on", x.ahead(0, 2, 0), 1);
    }

    private void won() {
        MaySheep x = told();
        row("16: won", new int[] {x.won(1, 2, 0), x.won(1, 2, 1), x.won(1, 3, 0), x.won(1, 3, 1), x.won(1, 4, 0),
            x.won(1, 4, 1), x.won(0, 4, 0), x.won(0, 4, 1)}, 0, 0, 1, 1, 2, 5, 1, 2);
        due("16: by none", x.won(1, 5, 0), -2);
        due("16: by none", x.won(1, 8, 1), -2);
        due("16: no 0", x.won(1, 0, 0), NONE);
        due("16: no 9", x.won(1, 9, 0), NONE);
        due("16: no man", x.won(2, 1, 0), NONE);
        due("16: no man", x.won(-1, 1, 0), NONE);
        due("16: no what", x.won(1, 1, 2), NONE);
        due("16: no what", x.won(1, 1, -1), NONE);
        Feeding.rule(x, "go 1 if likes=99 and sheep>0 and man=0");
        x.force(0);
        due("16: by the rule", x.won(0, 1, 1), 2);
        due("16: by the rule, two go", x.won(0, 3, 1), 6);
        due("16: by the rule, none", x.won(1, 1, 0), -2);
        due("9: nothing changes", x.likes(1, 0), 0);
        x = with("hill 1 9;sheep 1;sheep 1;sheep 1;man 9 0;follows 1 2");
        due("16: fewest ahead of least bits", x.won(0, 2, 1), 4);
        due("16: both", x.won(0, 3, 1), 5);
        x = with("hill 1 9;sheep 1;man 9 0;man 1 0;likes 0 0 99");
        due("16: 99 is not more than 99", x.won(1, 1, 0), -2);
    }

    private void least() {
        MaySheep x = told();
        row("17: least", new int[] {x.least(1, 2, 0), x.least(1, 2, 1), x.least(1, 3, 0), x.least(1, 3, 1),
            x.least(1, 4, 0), x.least(1, 4, 1), x.least(0, 4, 0), x.least(0, 4, 1)}, 0, 0, 1, 4, 32, 5, 20, 2);
        due("17: by none", x.least(0, 5, 0), -2);
        due("17: by none", x.least(0, 8, 1), -2);
        due("17: no 0", x.least(1, 0, 0), NONE);
        due("17: no 9", x.least(1, 9, 0), NONE);
        due("17: no man", x.least(2, 1, 0), NONE);
        due("17: no man", x.least(-1, 1, 0), NONE);
        due("17: no what", x.least(1, 1, 2), NONE);
        due("17: no what", x.least(1, 1, -1), NONE);
        Feeding.rule(x, "go man");
        x.force(0);
        due("17: without the rule", x.least(1, 3, 0), 1);
        x = with("hill 1 9;sheep 1;man 9 0;man 1 0;likes 0 0 99");
        due("17: 99 at most", x.least(1, 1, 0), -2);
        x = with("hill 1 9;sheep 1;man 9 0;man 1 0;likes 0 1 99;likes 0 0 9");
        due("17: as much is enough for the lesser", x.least(0, 1, 0), 90);
        x = with("hill 1 9;sheep 1;sheep 1;sheep 1;man 9 0;man 9 0;likes 0 1 3;likes 1 1 3;likes 1 0 1;likes 2 1 2");
        due("17: of several the least", x.least(0, 2, 0), 4);
        due("17: of several the least", x.least(0, 2, 1), 6);
        x = with("hill 1 9;sheep 1;sheep 1;man 9 0;likes 0 0 5;follows 0 1");
        due("17: one that follows does not count", x.least(0, 1, 0), 1);
        due("17: its leader must", x.least(0, 1, 1), 2);
    }

    private void men() {
        MaySheep x = told();
        due("18: both", x.men(0), 2);
        due("18: both", x.men(1), 3);
        due("18: no what", x.men(2), NONE);
        due("18: no what", x.men(-1), NONE);
        x = with("hill 1 3;sheep 1;sheep 1;sheep 1;sheep 1;man 9 0;man 1 0;man 3 0;man 4 0");
        due("18: grass is the lesser", x.men(0), 2);
        due("18: least bits", x.men(1), 3);
        x = with("hill 1 9;sheep 1;sheep 1;sheep 1;sheep 1;man 2 0;man 2 0;man 5 0");
        due("18: one", x.men(0), 1);
        due("18: the third", x.men(1), 4);
        x = with("hill 1 2;sheep 1;sheep 1;sheep 1;man 9 0");
        due("18: not enough", x.men(0), -2);
        due("18: not enough", x.men(1), -2);
        x = with("hill 1 2");
        due("18: none for none", x.men(0), 0);
        due("18: none for none", x.men(1), 0);
    }

    private static int[] rests(MaySheep x, int one, int other, int n) {
        return new int[] {x.rests(one, other, n, 0), x.rests(one, other, n, 1), x.rests(one, other, n, 2)};
    }

    private void rests() {
        String hill = "hill 9 9;sheep 9;man 1 7;man 1 8";
        // The other one outbids by 5 until 20, against which nothing is best, against which 5 is best.
        row("19: no rest", rests(with(hill, "go salt"), 0, 1, 1), 0, -2, -2);
        row("19: not worth it", rests(with("hill 1 1;sheep 1;man 1 7;man 1 8", "go salt"), 0, 1, 1), 1, 0, 0);
        // The sheep brings just what 5 of salt cost: nobody, the one or the other one gives it.
        row("19: three rests", rests(with("hill 1 9;sheep 5;man 1 7;man 1 8", "go salt"), 0, 1, 1), 3, 0, 0);
        row("19: three rests", rests(with("hill 1 9;sheep 5;man 1 7;man 1 8", "go salt"), 1, 0, 1), 3, 0, 0);
        row("19: not to be outbid", rests(with("hill 2 9;sheep 5;man 1 7;man 1 8", "go salt"), 0, 1, 1), 1, 5, 0);
        row("19: not to be outbid", rests(with("hill 2 9;sheep 5;man 1 7;man 1 8", "go salt"), 1, 0, 1), 1, 0, 5);
        row("19: outbid", rests(with("hill 3 9;sheep 5;man 1 7;man 1 8", "go salt"), 0, 1, 1), 0, -2, -2);
        String ten = "go 1 if man=0 and salt>=10;go 1 if man=1 and salt>=5";
        MaySheep x = with(hill, ten);
        row("19: ten", rests(x, 0, 1, 1), 1, 10, 0);
        row("19: ten, three Mays", rests(x, 0, 1, 3), 1, 10, 0);
        row("19: the other one first", rests(x, 1, 0, 20), 1, 0, 10);
        due("8: salt as it was", x.man(0, 1), 7);
        due("19: unlike", x.rests(0, 0, 1, 0), NONE);
        due("19: no man", x.rests(0, 2, 1, 0), NONE);
        due("19: no man", x.rests(-1, 1, 1, 0), NONE);
        due("19: no 0", x.rests(0, 1, 0, 0), NONE);
        due("19: no 21", x.rests(0, 1, 21, 0), NONE);
        due("19: no what", x.rests(0, 1, 1, 3), NONE);
        due("19: no what", x.rests(0, 1, 1, -1), NONE);
    }

    private void stranger() {
        MaySheep x = told();
        int[] liked = {1, 10, 11, 20, 21, 30, 31, 99};
        int[] sheep = {0, 0, 1, 1, 3, 3, 4, 4};
        int[] wool = {0, 0, 5, 5, 9, 9, 13, 13};
        for (int i = 0; i < liked.length; i++) {
            due("20: stranger " + liked[i], x.stranger(liked[i], 0), sheep[i]);
            due("20: wool " + liked[i], x.stranger(liked[i], 1), wool[i]);
        }
        due("20: no 0", x.stranger(0, 0), NONE);
        due("20: no 100", x.stranger(100, 0), NONE);
        due("20: no what", x.stranger(1, 2), NONE);
        due("20: no what", x.stranger(1, -1), NONE);
        due("20: no men", with("hill 1 1;sheep 3;sheep 4").stranger(1, 1), 7);
    }

    private void settled() {
        MaySheep x = told();
        due("21: year", x.settled(0), 1);
        due("21: later", x.settled(1), 1);
        x.may();
        x.may();
        due("21: this one", x.settled(0), 2);
        due("21: no what", x.settled(2), NONE);
        due("21: no what", x.settled(-1), NONE);
        x = with("hill 1 1;sheep 1;sheep 1;man 1 0;likes 0 0 3;likes 1 0 3");
        due("21: comes round", x.settled(0), 0);
        due("21: four later", x.settled(1), 4);
        String hill = "hill 1 1;sheep 1;sheep 1;sheep 1;man 1 0;man 1 0;man 1 0;man 1 0";
        x = with(hill, SETTLING.replace("M", "39"));
        due("21: the last year that can be", x.settled(0), 1);
        due("21: as late as can be", x.settled(1), 39);
        x = with(hill, SETTLING.replace("M", "40"));
        due("21: they do not", x.settled(0), -2);
        due("21: they do not", x.settled(1), -2);
        x.may();
        due("21: 40 from now", x.settled(1), 40);
        x = with(hill, "go 1 if year=39 and [man=2 and sheep%2=0 or man=1 and sheep=1];"
            + SETTLING.replace("year%M", "year").replace(" and", " and year<39 and"));
        due("21: the last year", x.settled(0), 39);
        due("21: the next one", x.settled(1), 1);
        due("21: no sheep", with("hill 1 1").settled(1), 1);
    }

    private void shared() {
        MaySheep x = told();
        due("22: how much", x.shared(0), 3);
        due("22: the part", x.shared(1), 11);
        due("22: no what", x.shared(2), NONE);
        due("22: no what", x.shared(-1), NONE);
        x = with("hill 1 1;sheep 2;sheep 2;sheep 2");
        due("22: how much", x.shared(0), 2);
        due("22: of several the least", x.shared(1), 1);
        x = with("hill 1 1;sheep 2;sheep 2;sheep 2;follows 0 2;follows 1 2");
        due("22: all in one", x.shared(0), 6);
        due("22: all in one", x.shared(1), 7);
        x = with("hill 1 1");
        due("22: no sheep", x.shared(0), 0);
        due("22: no sheep", x.shared(1), 0);
    }

    private void taught() {
        MaySheep x = told();
        row("23: man 1", new int[] {x.taught(1, 0), x.taught(1, 1), x.taught(1, 2)}, 3, 0, 1);
        row("23: man 0", new int[] {x.taught(0, 0), x.taught(0, 1), x.taught(0, 2)}, 4, 1, 0);
        due("12: nothing changes", x.sheep(1, 2), NONE);
        due("23: no man", x.taught(2, 0), -2);
        due("23: no man", x.taught(-1, 0), -2);
        due("23: no what", x.taught(0, 3), -2);
        due("23: no what", x.taught(0, -1), -2);
        Feeding.rule(x, "go man");
        x.force(0);
        row("23: nothing", new int[] {x.taught(1, 0), x.taught(1, 1), x.taught(1, 2)}, 4, NONE, NONE);
        row("23: nothing for him", new int[] {x.taught(0, 0), x.taught(0, 1), x.taught(0, 2)}, 0, NONE, NONE);
        // 1 is free of 0 only if it follows 2: to follow nobody is not taught.
        x = with("hill 1 9;sheep 1;sheep 1;sheep 1;man 9 0;likes 1 0 5;follows 1 0");
        row("23: to a ring", new int[] {x.taught(0, 0), x.taught(0, 1), x.taught(0, 2)}, 0, NONE, NONE);
    }

    private void worth() {
        MaySheep x = with(HILL, "go 50 if mine=1;go likes");
        due("24: one May", x.worth(1, 0, 1), 6);
        due("24: two Mays", x.worth(1, 0, 2), 12);
        due("24: man 1", x.worth(0, 1, 1), 8);
        due("24: no 0", x.worth(0, 1, 0), -100000);
        due("24: no 21", x.worth(0, 1, 21), -100000);
        due("24: twenty", x.worth(0, 1, 20), 160);
        due("24: no sheep", x.worth(4, 1, 1), -100000);
        due("24: no man", x.worth(0, 2, 1), -100000);
        due("24: not nobody", x.worth(0, NONE, 1), -100000);
        due("24: no sheep", x.worth(-1, 0, 1), -100000);
        x.may();
        due("24: his", x.worth(0, 0, 1), -100000);
        x = with(HILL, "go likes if flock=0");
        due("24: below 0", x.worth(3, 0, 1), -18);
        due("24: nothing by likings", told().worth(3, 0, 1), 0);
    }

    private void notes() {
        MaySheep x = with(HILL, "go man", "go likes", "go 5-man");
        due("26: all", x.ruled(0), 4);
        due("26: none first", x.ruled(1), NONE);
        row("27: look", new int[] {x.look(0, 0), x.look(0, 1)}, 0, 3);
        x.may();
        x.teach(0, 1);
        due("25: note", x.note(0, 0, 0), 1);
        due("26: from the begin", x.ruled(0), 3);
        due("26: none first", x.ruled(1), NONE);
        row("27: look", new int[] {x.look(0, 0), x.look(0, 1)}, 1, 2);
        due("25: note", x.note(1, 2, 0), 2);
        due("26: as before", x.ruled(0), 3);
        due("25: note", x.note(0, 1, 0), 3);
        due("26: one", x.ruled(0), 1);
        due("26: the last", x.ruled(1), 2);
        row("27: look", new int[] {x.look(40, 0), x.look(40, 1)}, 0, 1);
        due("25: nobody's", x.note(0, 2, NONE), 4);
        due("26: no such", x.ruled(0), 0);
        due("26: no such", x.ruled(1), -2);
        row("27: no such", new int[] {x.look(1, 0), x.look(1, 1)}, -2, -2);
        due("26: no what", x.ruled(2), -3);
        due("26: no what", x.ruled(-1), -3);
        due("27: no what", x.look(1, 2), NONE);
        due("27: no what", x.look(1, -1), NONE);
        due("27: no 41", x.look(41, 0), NONE);
        due("27: no -1", x.look(-1, 0), NONE);
        due("27: no sheep", with("hill 1 1").look(1, 0), -2);
        due("26: no sheep", with("hill 1 1").ruled(0), 1);
    }

    /** Mays are numbered from 0 on, as years are: behind May 40 a sheep is whose it became in year 40. */
    private void notedMays() {
        MaySheep x = with("hill 1 9;sheep 1;sheep 1;man 9 0", "go 1 if year=0", "go 1 if year=1", "go 1 if year=40",
            "go 1 if year=39");
        row("27: May 0", new int[] {x.look(0, 0), x.look(0, 1)}, 0, 4);
        row("27: May 2", new int[] {x.look(2, 0), x.look(2, 1)}, 0, 5);
        x.may();
        x.note(0, 0, 0);
        row("26: behind May 0", new int[] {x.ruled(0), x.ruled(1)}, 1, 0);
        x.note(1, 0, NONE);
        row("26: behind May 1", new int[] {x.ruled(0), x.ruled(1)}, 1, 0);
        x.note(NONE, 0, 0);
        x.note(1, 0, 0);
        row("26: behind May 1 alone", new int[] {x.ruled(0), x.ruled(1)}, 1, 1);
        x.note(NONE, 0, 0);
        x.note(40, 1, 0);
        row("26: behind May 40", new int[] {x.ruled(0), x.ruled(1)}, 1, 2);
        row("27: so by one", new int[] {x.look(40, 0), x.look(40, 1)}, 0, 1);
        x.note(NONE, 0, 0);
        x.note(39, 1, 0);
        row("26: behind May 39", new int[] {x.ruled(0), x.ruled(1)}, 1, 3);
        x = with("hill 1 9;sheep 1;sheep 1;man 9 0", "go 1 if [year=40 and sheep=1]");
        row("27: May 39", new int[] {x.look(39, 0), x.look(39, 1)}, 0, 2);
        row("27: May 40", new int[] {x.look(40, 0), x.look(40, 1)}, 1, 1);
    }

    private void noteLimits() {
        MaySheep x = told();
        due("25: no 41", x.note(41, 0, 0), -2);
        due("25: no -2", x.note(-2, 0, 0), -2);
        due("25: no sheep", x.note(0, 4, 0), -2);
        due("25: no sheep", x.note(0, -1, 0), -2);
        due("25: no man", x.note(0, 0, 2), -2);
        due("25: no man", x.note(0, 0, -2), -2);
        due("30: no notes", x.count(10), 0);
        for (int n = 1; n <= 10; n++) {
            due("25: note", x.note(40, 0, 0), n);
        }
        due("25: 10", x.note(1, 0, 0), -2);
        due("26: so", x.ruled(0), 1);
        due("25: none then", x.note(NONE, 99, 99), 0);
        due("30: no notes", x.count(10), 0);
        due("25: again", x.note(40, 1, 0), 1);
        due("26: not so", x.ruled(0), 0);
    }

    private void draws() {
        MaySheep x = told();
        due("28: was 0", x.seed(5), 0);
        due("28: below 0", x.seed(-1), NONE);
        due("28: stays", x.seed(2147483647), 5);
        due("30: x", x.count(12), 2147483647);
        x.seed(0);
        // From 0 on the draws are 0, 21468, 9988, 22117, 3498, 16927.
        int[][] asked = {{1, 1, 20, 1, 18}, {1, 1, 0, 0, 26}, {1, 1, 1, 1, 18}, {1, 1, 100, 4, 0}, {2, 1, 20, 2, 36},
            {1, 2, 20, 1, 36}, {1, 1, 68, 1, 18}, {1, 1, 69, 3, 10}, {2, 1, 28, 3, 26}};
        for (int[] a : asked) {
            due("29: nobody's", x.frights(a[0], a[1], a[2], 0), a[3]);
            due("29: coins", x.frights(a[0], a[1], a[2], 1), a[4]);
        }
        due("29: x as it was", x.count(12), 0);
        x.seed(12345);
        due("29: nobody's", x.frights(1, 1, 20, 0), 1);
        due("29: coins", x.frights(1, 1, 20, 1), 16);
        int[][] wrong = {{0, 1, 1, 0}, {11, 1, 1, 0}, {1, 0, 1, 0}, {1, 41, 1, 0}, {1, 1, -1, 0}, {1, 1, 101, 0},
            {1, 1, 1, 2}, {1, 1, 1, -1}};
        for (int[] a : wrong) {
            due("29: without these", x.frights(a[0], a[1], a[2], a[3]), NONE);
        }
        due("29: most", x.frights(10, 40, 100, 0), 40);
        row("29: nothing stays", counts(x), 2, 3, 4, 2, 0, NONE, 0, 15, 7, 0, 0, 0, 12345, 0);
    }

    private void count() {
        MaySheep x = told();
        Feeding.rule(x, "go 1");
        x.may();
        x.note(0, 0, 0);
        x.seed(3);
        x.force(0);
        x.feed(0, 0, 0, 0, 0);
        row("30: count", counts(x), 2, 3, 4, 2, 1, 0, 1, 0, 7, 26, 1, 1, 3, 20);
        due("30: no 14", x.count(14), NONE);
        due("30: no -1", x.count(-1), NONE);
    }

    private void images() {
        MaySheep x = new MaySheep();
        due("31: without a hill", x.image(3), 0);
        Feeding.hill(x, HILL);
        Feeding.rule(x, "go man");
        x.may();
        x.note(1, 0, 1);
        x.seed(8);
        x.force(0);
        due("31: year", x.image(0), 1);
        due("30: can still be undone", x.count(11), 1);
        x.may();
        x.teach(0, 1);
        x.seed(9);
        x.note(NONE, 0, 0);
        x.force(NONE);
        Feeding.hill(x, "hill 1 1;sheep 9;man 1 1;likes 0 0 1");
        x.may();
        Feeding.rule(x, "go 2");
        x.feed(1, 2, 3, 4, 5);
        due("32: year", x.back(0), 1);
        row("32: as it was", counts(x), 2, 3, 4, 2, 2, 0, 1, 0, 7, 26, 1, 0, 8, 20);
        row("32: whose", whose(x), 0, 1, 0, 1);
        due("32: likes", x.likes(0, 0), 35);
        due("32: nothing can be undone", x.undo(), NONE);
        due("32: its begin", x.ruled(0), 1);
        due("32: its begin", x.ruled(1), 0);
        x.lead(0, 1);
        x.note(1, 1, 1);
        due("32: again", x.back(0), 1);
        due("32: the image was not changed", x.sheep(0, 1), 0);
        due("32: the notes were not changed", x.count(10), 1);
        due("32: never made", x.back(1), NONE);
        due("32: no 4", x.back(4), NONE);
        due("32: no -1", x.back(-1), NONE);
        due("31: no 4", x.image(4), NONE);
        due("31: no -1", x.image(-1), NONE);
        x.may();
        due("31: made anew", x.image(0), 2);
        x.may();
        due("32: made anew", x.back(0), 2);
        due("32: without a hill", x.back(3), 0);
        due("32: without a hill", x.may(), NONE);
        due("32: the rules stay", x.count(4), 2);
    }

    public static void main(String[] args) {
        PromisesTest t = new PromisesTest();
        t.newObject();
        t.withoutHill();
        t.feedAndEnd();
        t.hill();
        t.ruleAndForce();
        t.sheepManLikes();
        t.leaders();
        t.mays();
        t.lastYear();
        t.words();
        t.sums();
        t.choices();
        t.salt();
        t.teachAndLead();
        t.undo();
        t.ahead();
        t.won();
        t.least();
        t.men();
        t.rests();
        t.stranger();
        t.settled();
        t.shared();
        t.taught();
        t.worth();
        t.notes();
        t.noteLimits();
        t.notedMays();
        t.draws();
        t.count();
        t.images();
        t.checks.exit("promises");
    }
}
