/** Counts what is as due and tells what is not. */
final class Checks {
    private int right = 0;
    private int wrong = 0;
    private String about = "";

    /** What the checks that come stand for; told with those that are not as due. */
    void about(String sentence) {
        about = sentence.isEmpty() ? "" : "\"" + sentence + "\": ";
    }

    int made() {
        return right + wrong;
    }

    void due(String what, long got, long want) {
        if (got == want) {
            right++;
        } else {
            tell(what + " answered " + got + ", due is " + want);
        }
    }

    void same(String what, String got, String want) {
        if (got.equals(want)) {
            right++;
        } else {
            tell(what + "\n  is     " + got + "\n  due is " + want);
        }
    }

    void holds(String what, boolean is) {
        if (is) {
            right++;
        } else {
            tell(what + " does not hold");
        }
    }

    private void tell(String what) {
        wrong++;
        System.out.println(about + what);
    }

    void exit(String name) {
        System.out.println(name + ": " + right + " as due, " + wrong + " not");
        System.exit(wrong == 0 && right > 0 ? 0 : 1);
    }
}
