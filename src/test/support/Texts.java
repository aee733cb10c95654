/** Draws hills and rules, most of them sound, from numbers that are the same in every run. */
final class Texts {
    private static final String[] WORDS =
        {"sheep", "man", "likes", "salt", "hands", "flock", "mine", "led", "wool", "coins", "grass", "year"};
    private static final String[] SIGNS = {"<", "<=", "=", ">=", ">"};
    private static final String[] PIECES = {";", "hill", "sheep", "man", "likes", "follows", "go", "if", "not", "and",
        "or", "[", "]", "+", "-", "*", "/", "%", "<", "<=", "=", ">=", ">", "0", "1", "99999", "123456", "100", "21",
        "\0", "\u00e9", "A", "foo", " ", "  ", "year", "wool"};

    private long state;

    Texts(long seed) {
        state = seed * 6364136223846793005L + 1442695040888963407L;
    }

    int upTo(int n) {
        state = state * 6364136223846793005L + 1442695040888963407L;
        return (int) ((state >>> 33) % n);
    }

    boolean oneIn(int n) {
        return upTo(n) == 0;
    }

    private String gap() {
        return " ".repeat(upTo(4) / 3);
    }

    private String must() {
        return oneIn(8) ? "  " : " ";
    }

    String hill() {
        StringBuilder s = new StringBuilder(gap() + "hill" + gap() + (1 + upTo(9)) + must() + (1 + upTo(20)));
        int sheep = oneIn(10) ? upTo(3) : 3 + upTo(6);
        int men = oneIn(10) ? upTo(2) : 2 + upTo(3);
        int most = oneIn(3) ? 99 : 3 + upTo(20);
        for (int i = 0; i < sheep; i++) {
            s.append(gap()).append(';').append(gap()).append("sheep").append(gap()).append(1 + upTo(9));
        }
        for (int i = 0; i < men; i++) {
            s.append(";man ").append(1 + upTo(oneIn(2) ? 3 : 9)).append(must()).append(upTo(21));
        }
        int likes = sheep == 0 || men == 0 ? 0 : upTo(24);
        for (int i = 0; i < likes && s.length() < 340; i++) {
            s.append(";likes").append(gap()).append(upTo(sheep)).append(must()).append(upTo(men)).append(must())
                .append(upTo(most + 1));
        }
        int follows = sheep < 2 ? 0 : upTo(oneIn(3) ? 9 : 4);
        for (int i = 0; i < follows && s.length() < 380; i++) {
            int a = upTo(sheep);
            s.append(";follows ").append(a).append(' ').append((a + 1 + upTo(sheep - 1)) % sheep);
        }
        return s.toString();
    }

    private String value() {
        if (oneIn(3)) {
            return "" + (oneIn(4) ? upTo(100000) : upTo(12));
        }
        return WORDS[upTo(WORDS.length)];
    }

    String sum() {
        StringBuilder s = new StringBuilder(value());
        for (int n = upTo(5); n > 0; n--) {
            s.append(gap()).append("+-*/%".charAt(upTo(5))).append(gap()).append(value());
        }
        return s.toString();
    }

    String test(int deep) {
        StringBuilder s = new StringBuilder(fact(deep));
        for (int n = upTo(3); n > 0; n--) {
            s.append(oneIn(2) ? " or " : " and ").append(fact(deep));
        }
        return s.toString();
    }

    private String fact(int deep) {
        if (deep > 0 && oneIn(3)) {
            return "not " + fact(deep - 1);
        }
        if (deep > 0 && oneIn(3)) {
            return "[" + gap() + test(deep - 1) + gap() + "]";
        }
        return sum() + gap() + SIGNS[upTo(5)] + gap() + sum();
    }

    /** A rule by which salt, flocks and whose a sheep is matter. */
    private String livelyRule() {
        String[] sums = {"likes", "salt", "salt*2", "flock", "mine*3", "mine*20", "coins/50", "coins/200%7", "led*man",
            "wool%5", "hands", "year*man%5", "[likes", "likes*2", "grass-flock", "year%3*man"};
        String[] tests = {"flock<hands", "flock<grass and not mine=1", "mine=1", "salt>9 or coins>100", "led>1",
            "[year%4=man or flock=0] and likes>=3", "not [flock>=hands or salt<5]", "coins<flock*90", "sheep%2=man%2"};
        StringBuilder s = new StringBuilder();
        for (int n = upTo(3); n >= 0; n--) {
            s.append("go ");
            for (int k = 1 + upTo(3); k >= 0; k--) {
                s.append(sums[upTo(sums.length)].replace("[", "3*")).append(k == 0 ? "" : oneIn(4) ? "-" : "+");
            }
            s.append(n == 0 && oneIn(2) ? "" : " if " + tests[upTo(tests.length)]).append(n == 0 ? "" : ";");
        }
        return s.toString();
    }

    String rule() {
        if (!oneIn(3)) {
            return livelyRule();
        }
        StringBuilder s = new StringBuilder();
        int clauses = 1 + upTo(oneIn(6) ? 14 : 4);
        for (int i = 0; i < clauses; i++) {
            String clause = "go " + sum() + (oneIn(3) && i + 1 == clauses ? "" : " if " + test(upTo(4)));
            if (s.length() + clause.length() < 399) {
                s.append(i == 0 ? "" : ";").append(clause);
            }
        }
        return s.length() == 0 ? "go likes" : s.toString();
    }

    String hurt(String text) {
        int at = upTo(text.length() + 1);
        int to = Math.min(text.length(), at + upTo(4));
        String hurt = text.substring(0, at) + (oneIn(4) ? "" : PIECES[upTo(PIECES.length)]) + text.substring(to);
        return hurt.length() > 400 ? hurt.substring(0, 400) : hurt;
    }

    String pieces() {
        StringBuilder s = new StringBuilder();
        for (int n = upTo(8); n > 0; n--) {
            s.append(PIECES[upTo(PIECES.length)]).append(oneIn(2) ? " " : "");
        }
        return s.toString();
    }

    /** Texts near the limits of depth and of values. */
    String largeRule() {
        if (oneIn(2)) {
            StringBuilder s = new StringBuilder("go 1 if ");
            int open = 0;
            for (int n = 8 + upTo(5); n > 0; n--) {
                boolean opens = oneIn(2);
                s.append(opens ? "[" : "not ");
                open += opens ? 1 : 0;
            }
            return s + "likes > 0" + "]".repeat(Math.max(0, open - upTo(8) / 7));
        }
        StringBuilder s = new StringBuilder("go 1");
        int many = 55 + upTo(8);
        boolean hasFacts = oneIn(2);
        if (hasFacts) {
            s.append(" if 0=0");
            for (int n = 4; n < many; n += 3) {
                s.append(" or ").append(upTo(3)).append(SIGNS[upTo(5)]).append(oneIn(40) ? "1+1" : "1");
            }
            return s.toString();
        }
        for (int n = 1; n < many; n++) {
            s.append("+-*/%".charAt(upTo(5))).append(oneIn(60) ? "1234567" : "man");
        }
        return s.toString();
    }
}
