import java.util.StringJoiner;

/** Objects that tests begin with, and all that can be seen of one. */
final class Made {
    static final int NONE = MaySheep.NONE;
    /** Leaders 0, 1 (with 3) and 2; on a May 0 and 2 go to man 0, 1 and 3 to man 1. */
    static final String HILL = "hill 2 3;sheep 4;sheep 3;sheep 5;sheep 1;man 2 10;man 3 6;"
        + "likes 0 0 30;likes 1 1 20;likes 2 0 10;likes 2 1 10;follows 3 1";
    static final String EIGHT = ";sheep 1".repeat(8);
    static final String FOUR = ";man 9 0".repeat(4);

    private Made() {
    }

    /** A hill and rules, of which the last is in force. */
    static MaySheep with(String hill, String... rules) {
        MaySheep x = new MaySheep();
        Feeding.hill(x, hill);
        for (String rule : rules) {
            x.force(Feeding.rule(x, rule));
        }
        return x;
    }

    static MaySheep after(int mays, String hill, String... rules) {
        MaySheep x = with(hill, rules);
        for (int n = 0; n < mays; n++) {
            x.may();
        }
        return x;
    }

    /** There is some of everything: rules, acts, notes, an image, x, and a text on the tape. */
    static MaySheep busy() {
        MaySheep x = with(HILL, "go likes+mine*5", "go likes+1-flock");
        x.may();
        x.seed(4711);
        x.note(0, 0, 0);
        x.image(1);
        x.salt(0, 1, 7);
        x.teach(2, 0);
        x.lead(3, 0);
        x.note(2, 1, 1);
        Feeding.put(x, "hill 3 4;sheep 8;man 1 2");
        return x;
    }

    static String whose(MaySheep x) {
        StringJoiner all = new StringJoiner(" ");
        for (int sheep = 0; sheep < x.count(2); sheep++) {
            all.add("" + x.sheep(sheep, 1));
        }
        return all.toString();
    }

    static String likes(MaySheep x, int man) {
        StringJoiner all = new StringJoiner(" ");
        for (int sheep = 0; sheep < x.count(2); sheep++) {
            all.add("" + x.likes(sheep, man));
        }
        return all.toString();
    }

    static String counts(MaySheep x) {
        StringJoiner all = new StringJoiner(" ");
        for (int what = 0; what < 14; what++) {
            all.add("" + x.count(what));
        }
        return all.toString();
    }

    private static String now(MaySheep x) {
        StringJoiner all = new StringJoiner(" ", "[", "]");
        all.add(counts(x)).add("whose " + whose(x));
        for (int man = 0; man < x.count(3); man++) {
            all.add("man " + x.man(man, 0) + " " + x.man(man, 1) + " " + x.man(man, 2) + " likes " + likes(x, man));
        }
        for (int sheep = 0; sheep < x.count(2); sheep++) {
            all.add("sheep " + x.sheep(sheep, 0) + " " + x.sheep(sheep, 2));
        }
        return all.toString();
    }

    /** All that can be seen of an object: what is, what notes, x and rules make of it, acts, images, the tape. */
    static String all(MaySheep x) {
        StringBuilder all = new StringBuilder(now(x));
        all.append(" ruled ").append(x.ruled(0)).append(' ').append(x.ruled(1));
        all.append(" ahead ").append(x.ahead(0, 3, 1)).append(' ').append(x.ahead(1, 3, 1));
        all.append(" frights ").append(x.frights(2, 2, 50, 1));
        for (int left = x.undo(); left != NONE; left = x.undo()) {
            all.append(" undone ").append(left).append(now(x));
        }
        for (int k = 0; k < 4; k++) {
            int year = x.back(k);
            all.append(" image ").append(year).append(year == NONE ? "" : now(x));
        }
        all.append(" tape ").append(x.hill()).append(now(x));
        return all.toString();
    }
}
