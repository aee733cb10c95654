import java.util.Arrays;

/** The sheep choose their shepherd: a hill of sheep and men, its Mays, and what can be asked of them. */
public final class MaySheep {
    public static final int NONE = -1;

    /** Answers that mean "not so" where NONE itself is an answer. */
    private static final int NO = -2;
    private static final int NO_RULED = -3;
    private static final int NO_WORTH = -100000;

    private static final int MOST_SHEEP = 8;
    private static final int MOST_MEN = 4;
    private static final int MOST_RULES = 6;
    private static final int MOST_IMAGES = 4;
    private static final int MOST_LIKED = 99;
    private static final int MOST_COINS = 99999;
    private static final int MOST_SALT = 20;
    private static final int LAST_YEAR = 999;
    private static final int LAST_NOTED = 40;

    private final Tape tape = new Tape();
    private final World world = new World();
    private final World[] images = new World[MOST_IMAGES];
    private final Hill draft = new Hill();
    private final RuleReader ruleReader = new RuleReader();
    private final Rule[] rules = new Rule[MOST_RULES];
    private int ruleCount = 0;
    private final Acts acts = new Acts();
    private final Leaders leaders = new Leaders();
    private final Mays mays = new Mays();
    private final Asked asked = new Asked();

    public MaySheep() {
    }

    public int feed(int a, int b, int c, int d, int e) {
        if (!tape.hasRoom()) {
            return NONE;
        }
        tape.add(a);
        tape.add(b);
        tape.add(c);
        tape.add(d);
        tape.add(e);
        return tape.length;
    }

    public int end(int n) {
        if (!within(n, 0, tape.length)) {
            return NONE;
        }
        tape.length = n;
        return n;
    }

    public int hill() {
        draft.read(tape);
        tape.length = 0;
        if (tape.fault != 0) {
            return NO - tape.fault;
        }
        world.tell(draft);
        acts.forget();
        return world.hill.sheepCount;
    }

    public int rule() {
        if (ruleCount >= MOST_RULES) {
            return NONE;
        }
        ruleReader.read(tape);
        tape.length = 0;
        if (tape.fault != 0) {
            return NO - tape.fault;
        }
        rules[ruleCount] = new Rule(ruleReader.written());
        ruleCount++;
        return ruleCount - 1;
    }

    public int force(int rule) {
        if (!within(rule, NONE, ruleCount - 1)) {
            return NO;
        }
        int was = world.force;
        world.force = rule;
        return was;
    }

    public int sheep(int sheep, int what) {
        if (!isSheep(sheep)) {
            return NO;
        }
        leaders.find(world.hill, world.state);
        switch (what) {
            case 0: return world.hill.wool[sheep];
            case 1: return world.state.whose[sheep];
            case 2: return world.state.follows[sheep];
            case 3: return leaders.leader[sheep];
            case 4: return leaders.led[leaders.leader[sheep]];
            default: return NO;
        }
    }

    public int man(int man, int what) {
        if (!isMan(man)) {
            return NONE;
        }
        switch (what) {
            case 0: return world.hill.hands[man];
            case 1: return world.hill.salt[man];
            case 2: return world.state.coins[man];
            case 3: return flockBits(man);
            default: return NONE;
        }
    }

    public int likes(int sheep, int man) {
        if (!isSheep(sheep) || !isMan(man)) {
            return NONE;
        }
        return world.state.likes[sheep][man];
    }

    public int may() {
        if (!world.hill.told || world.state.year >= LAST_YEAR) {
            return NONE;
        }
        acts.keep(world.state);
        mays.begin(world.hill, world.state, inForce());
        mays.goOn(1);
        int changed = 0;
        for (int sheep = 0; sheep < world.hill.sheepCount; sheep++) {
            if (mays.state.whose[sheep] != world.state.whose[sheep]) {
                changed++;
            }
        }
        world.state.take(mays.state);
        return changed;
    }

    public int salt(int man, int sheep, int much) {
        if (!isMan(man) || !isSheep(sheep) || !within(much, 1, MOST_SALT)) {
            return NONE;
        }
        if (world.state.coins[man] < much) {
            return NONE;
        }
        acts.keep(world.state);
        world.state.coins[man] -= much;
        world.state.like(sheep, man, much);
        return world.state.likes[sheep][man];
    }

    public int teach(int sheep, int other) {
        if (!isSheep(sheep) || sheep == other || !(other == NONE || isSheep(other))) {
            return NO;
        }
        int was = world.state.follows[sheep];
        if (was == other) {
            return NO;
        }
        acts.keep(world.state);
        world.state.follows[sheep] = other;
        return was;
    }

    public int lead(int sheep, int man) {
        if (!isSheep(sheep) || !isMan(man) || world.state.whose[sheep] == man) {
            return NO;
        }
        acts.keep(world.state);
        int was = world.state.whose[sheep];
        world.state.whose[sheep] = man;
        return was;
    }

    public int undo() {
        return acts.takeBack(world.state) ? acts.count : NONE;
    }

    public int ahead(int number, int n, int what) {
        boolean known = what == 0 ? isSheep(number) : isMan(number);
        if (!known || !within(n, 0, 60) || !within(what, 0, 2)) {
            return NO;
        }
        mays.begin(world.hill, world.state, inForce());
        mays.goOn(n);
        if (what == 0) {
            return mays.state.whose[number];
        }
        return what == 1 ? mays.state.coins[number] : mays.state.flock(number, world.hill.sheepCount);
    }

    public int won(int man, int many, int what) {
        if (!isMan(man) || !within(many, 1, MOST_SHEEP) || !within(what, 0, 1)) {
            return NONE;
        }
        asked.askWon(world, inForce(), man, many);
        return asked.answers[what];
    }

    public int least(int man, int many, int what) {
        if (!isMan(man) || !within(many, 1, MOST_SHEEP) || !within(what, 0, 1)) {
            return NONE;
        }
        asked.askLeast(world, man, many);
        return asked.answers[what];
    }

    public int men(int what) {
        if (!world.hill.told || !within(what, 0, 1)) {
            return NONE;
        }
        asked.askMen(world.hill);
        return asked.answers[what];
    }

    public int rests(int one, int other, int n, int what) {
        if (!isMan(one) || !isMan(other) || one == other || !within(n, 1, 20) || !within(what, 0, 2)) {
            return NONE;
        }
        asked.askRests(world, inForce(), one, other, n);
        return asked.answers[what];
    }

    public int stranger(int liked, int what) {
        if (!world.hill.told || !within(liked, 1, MOST_LIKED) || !within(what, 0, 1)) {
            return NONE;
        }
        asked.askStranger(world, liked);
        return asked.answers[what];
    }

    public int settled(int what) {
        if (!world.hill.told || !within(what, 0, 1)) {
            return NONE;
        }
        asked.askSettled(world, inForce());
        return asked.answers[what];
    }

    public int shared(int what) {
        if (!world.hill.told || !within(what, 0, 1)) {
            return NONE;
        }
        asked.askShared(world);
        return asked.answers[what];
    }

    public int taught(int man, int what) {
        if (!isMan(man) || !within(what, 0, 2)) {
            return NO;
        }
        asked.askTaught(world, inForce(), man);
        return asked.answers[what];
    }

    public int worth(int sheep, int man, int n) {
        if (!isSheep(sheep) || !isMan(man) || world.state.whose[sheep] == man || !within(n, 1, 20)) {
            return NO_WORTH;
        }
        mays.begin(world.hill, world.state, inForce());
        mays.goOn(n);
        int without = mays.state.coins[man];
        mays.begin(world.hill, world.state, inForce());
        mays.state.whose[sheep] = man;
        mays.goOn(n);
        return mays.state.coins[man] - without;
    }

    public int note(int n, int sheep, int man) {
        if (n == NONE) {
            world.notes.count = 0;
            return 0;
        }
        if (!within(n, 0, LAST_NOTED) || !isSheep(sheep) || !(man == NONE || isMan(man)) || !world.notes.hasRoom()) {
            return NO;
        }
        world.notes.add(n, sheep, man);
        return world.notes.count;
    }

    public int ruled(int what) {
        if (!world.hill.told || !within(what, 0, 1)) {
            return NO_RULED;
        }
        asked.askRuled(world, rules, ruleCount);
        return asked.answers[what];
    }

    public int look(int n, int what) {
        if (!world.hill.told || !within(n, 0, LAST_NOTED) || !within(what, 0, 1)) {
            return NONE;
        }
        asked.askLook(world, rules, ruleCount, n);
        return asked.answers[what];
    }

    public int seed(int x) {
        if (x < 0) {
            return NONE;
        }
        int was = world.drawn;
        world.drawn = x;
        return was;
    }

    public int frights(int m, int n, int p, int what) {
        if (!world.hill.told || !within(m, 1, 10) || !within(n, 1, 40)) {
            return NONE;
        }
        if (!within(p, 0, 100) || !within(what, 0, 1)) {
            return NONE;
        }
        asked.askFrights(world, inForce(), m, n, p);
        return asked.answers[what];
    }

    public int count(int what) {
        switch (what) {
            case 0: return world.hill.price;
            case 1: return world.hill.grass;
            case 2: return world.hill.sheepCount;
            case 3: return world.hill.menCount;
            case 4: return ruleCount;
            case 5: return world.force;
            case 6: return world.state.year;
            case 7: return flockBits(NONE);
            case 8: return leaderBits();
            case 9: return world.state.allCoins(world.hill.menCount);
            case 10: return world.notes.count;
            case 11: return acts.count;
            case 12: return world.drawn;
            case 13: return tape.length;
            default: return NONE;
        }
    }

    public int image(int k) {
        if (!within(k, 0, MOST_IMAGES - 1)) {
            return NONE;
        }
        if (images[k] == null) {
            images[k] = new World();
        }
        images[k].take(world);
        return world.state.year;
    }

    public int back(int k) {
        if (!within(k, 0, MOST_IMAGES - 1) || images[k] == null) {
            return NONE;
        }
        world.take(images[k]);
        acts.forget();
        return world.state.year;
    }

    private static boolean within(int number, int low, int high) {
        return number >= low && number <= high;
    }

    private boolean isSheep(int number) {
        return within(number, 0, world.hill.sheepCount - 1);
    }

    private boolean isMan(int number) {
        return within(number, 0, world.hill.menCount - 1);
    }

    private Rule inForce() {
        return within(world.force, 0, ruleCount - 1) ? rules[world.force] : null;
    }

    private int flockBits(int man) {
        int bits = 0;
        for (int sheep = 0; sheep < world.hill.sheepCount; sheep++) {
            if (world.state.whose[sheep] == man) {
                bits |= 1 << sheep;
            }
        }
        return bits;
    }

    private int leaderBits() {
        leaders.find(world.hill, world.state);
        int bits = 0;
        for (int sheep = 0; sheep < world.hill.sheepCount; sheep++) {
            if (leaders.leads(sheep)) {
                bits |= 1 << sheep;
            }
        }
        return bits;
    }

    /** The bytes that were fed, and a reading of them from left to right that keeps its first fault. */
    private static final class Tape {
        static final int LONGEST = 400;

        /** The kinds of faults; the readers look for a lesser kind first where two can have one place. */
        static final int MISPLACED = 0;
        static final int BAD_NUMBER = 1;
        static final int TOO_DEEP = 2;
        static final int TOO_MANY_VALUES = 3;
        static final int TOO_MANY_CLAUSES = 4;

        /** The kinds of tokens: a sign of one byte is this byte itself, the other kinds stand above. */
        static final int WORD = 256;
        static final int SHEEP = WORD;
        static final int MAN = WORD + 1;
        static final int LIKES = WORD + 2;
        static final int LAST_VALUE_WORD = WORD + 11;
        static final int HILL = WORD + 12;
        static final int FOLLOWS = WORD + 13;
        static final int GO = WORD + 14;
        static final int IF = WORD + 15;
        static final int OR = WORD + 16;
        static final int AND = WORD + 17;
        static final int NOT = WORD + 18;
        static final int NO_WORD = WORD + 19;
        static final int NUMBER = WORD + 20;
        static final int AT_MOST = WORD + 21;
        static final int AT_LEAST = WORD + 22;
        static final int END = WORD + 23;

        /** In the order of their kinds; those that can be values come first, in the order of Rule's words. */
        private static final String WORDS =
            "sheep man likes salt hands flock mine led wool coins grass year hill follows go if or and not ";
        private static final int MOST_DIGITS = 5;
        private static final int FED_AT_ONCE = 20;

        int length = 0;
        int fault = 0;
        private final byte[] bytes = new byte[LONGEST];
        private final int[] kinds = new int[LONGEST + 1];
        private final int[] places = new int[LONGEST + 1];
        /** Of a number that has too many digits NONE, which is never as told. */
        private final int[] numbers = new int[LONGEST + 1];
        private int tokenCount = 0;
        private int current = 0;

        boolean hasRoom() {
            return length + FED_AT_ONCE <= LONGEST;
        }

        void add(int four) {
            for (int shift = 24; shift >= 0 && length < LONGEST; shift -= 8) {
                bytes[length] = (byte) (four >> shift);
                length++;
            }
        }

        void beginReading() {
            fault = 0;
            current = 0;
            tokenCount = 0;
            for (int place = 0; place < length; ) {
                place = Math.max(place + 1, scan(place));
            }
            keepToken(END, length, 0);
        }

        /** Keeps the token that begins here, unless it is a blank: the place behind it. */
        private int scan(int from) {
            int sign = bytes[from] & 255;
            if (sign == ' ') {
                return from + 1;
            }
            if (isLetter(sign)) {
                return scanWord(from);
            }
            if (isDigit(sign)) {
                return scanNumber(from);
            }
            boolean isDouble = (sign == '<' || sign == '>') && from + 1 < length && bytes[from + 1] == '=';
            if (isDouble) {
                keepToken(sign == '<' ? AT_MOST : AT_LEAST, from, 0);
                return from + 2;
            }
            keepToken(sign, from, 0);
            return from + 1;
        }

        private int scanWord(int from) {
            int to = from;
            while (to < length && isLetter(bytes[to])) {
                to++;
            }
            keepToken(wordKind(from, to - from), from, 0);
            return to;
        }

        private int wordKind(int from, int size) {
            int kind = WORD;
            int start = 0;
            boolean isSame = true;
            for (int i = 0; i < WORDS.length(); i++) {
                int offset = i - start;
                if (WORDS.charAt(i) != ' ') {
                    isSame = isSame && offset < size && bytes[from + offset] == WORDS.charAt(i);
                } else if (isSame && offset == size) {
                    return kind;
                } else {
                    kind++;
                    start = i + 1;
                    isSame = true;
                }
            }
            return NO_WORD;
        }

        private int scanNumber(int from) {
            int to = from;
            int number = 0;
            while (to < length && isDigit(bytes[to])) {
                if (to - from < MOST_DIGITS) {
                    number = number * 10 + bytes[to] - '0';
                }
                to++;
            }
            keepToken(NUMBER, from, to - from > MOST_DIGITS ? NONE : number);
            return to;
        }

        private void keepToken(int kind, int place, int number) {
            if (tokenCount < kinds.length) {
                kinds[tokenCount] = kind;
                places[tokenCount] = place;
                numbers[tokenCount] = number;
                tokenCount++;
            }
        }

        private static boolean isLetter(int sign) {
            return sign >= 'a' && sign <= 'z';
        }

        private static boolean isDigit(int sign) {
            return sign >= '0' && sign <= '9';
        }

        /** The kind of the token that comes next. */
        int nextKind() {
            return current < kinds.length ? kinds[current] : END;
        }

        int nextPlace() {
            return current < places.length ? places[current] : length;
        }

        /** Whether a token of this kind comes next; it is passed then. The end is never passed. */
        boolean pass(int kind) {
            if (current >= tokenCount - 1 || kinds[current] != kind) {
                return false;
            }
            current++;
            return true;
        }

        void blame(int place, int kind) {
            if (fault == 0) {
                fault = 1 + 8 * place + kind;
            }
        }

        int takeNumber(int low, int high) {
            if (fault != 0 || current >= kinds.length) {
                return NONE;
            }
            int number = numbers[current];
            if (kinds[current] != NUMBER) {
                blame(places[current], MISPLACED);
            } else if (number < low || number > high) {
                blame(places[current], BAD_NUMBER);
            } else {
                current++;
            }
            return number;
        }

        /** Whether another clause is to come; anything but that and the end is a fault. */
        boolean hasMore() {
            if (fault != 0 || nextKind() == END) {
                return false;
            }
            if (pass(';')) {
                return true;
            }
            blame(nextPlace(), MISPLACED);
            return false;
        }
    }

    /** What a text told of a hill; only another text changes it. */
    private static final class Hill {
        private static final int MOST_CLAUSES = 40;

        boolean told = false;
        int price = 0;
        int grass = 0;
        int sheepCount = 0;
        int menCount = 0;
        final int[] wool = new int[MOST_SHEEP];
        final int[] hands = new int[MOST_MEN];
        final int[] salt = new int[MOST_MEN];
        /** The sheep as they are before the first May. */
        final State start = new State();

        void take(Hill other) {
            told = other.told;
            price = other.price;
            grass = other.grass;
            sheepCount = other.sheepCount;
            menCount = other.menCount;
            System.arraycopy(other.wool, 0, wool, 0, MOST_SHEEP);
            System.arraycopy(other.hands, 0, hands, 0, MOST_MEN);
            System.arraycopy(other.salt, 0, salt, 0, MOST_MEN);
            start.take(other.start);
        }

        void read(Tape tape) {
            told = true;
            sheepCount = 0;
            menCount = 0;
            start.clear();
            tape.beginReading();
            for (int n = 0; n <= MOST_CLAUSES; n++) {
                readClause(tape, n);
                if (!tape.hasMore()) {
                    break;
                }
            }
        }

        private void readClause(Tape tape, int n) {
            int place = tape.nextPlace();
            int kind = tape.nextKind();
            if (!isClause(kind)) {
                tape.blame(place, Tape.MISPLACED);
            } else if (isTooMany(kind, n)) {
                tape.blame(place, Tape.TOO_MANY_CLAUSES);
            } else if (tape.pass(kind)) {
                readNumbers(tape, kind);
            }
        }

        private static boolean isClause(int kind) {
            return kind == Tape.HILL || kind == Tape.SHEEP || kind == Tape.MAN
                || kind == Tape.LIKES || kind == Tape.FOLLOWS;
        }

        private boolean isTooMany(int kind, int n) {
            boolean isOutOfOrder = (kind == Tape.HILL) != (n == 0);
            return n >= MOST_CLAUSES || isOutOfOrder
                || kind == Tape.SHEEP && sheepCount >= MOST_SHEEP
                || kind == Tape.MAN && menCount >= MOST_MEN;
        }

        private void readNumbers(Tape tape, int kind) {
            if (kind == Tape.HILL) {
                price = tape.takeNumber(1, 9);
                grass = tape.takeNumber(1, 20);
            } else if (kind == Tape.SHEEP) {
                readSheep(tape);
            } else if (kind == Tape.MAN) {
                readMan(tape);
            } else if (kind == Tape.LIKES) {
                readLikes(tape);
            } else {
                readFollows(tape);
            }
        }

        private void readSheep(Tape tape) {
            int much = tape.takeNumber(1, 9);
            if (tape.fault == 0 && sheepCount < MOST_SHEEP) {
                wool[sheepCount] = much;
                sheepCount++;
            }
        }

        private void readMan(Tape tape) {
            int hisHands = tape.takeNumber(1, 9);
            int hisSalt = tape.takeNumber(0, MOST_SALT);
            if (tape.fault == 0 && menCount < MOST_MEN) {
                hands[menCount] = hisHands;
                salt[menCount] = hisSalt;
                menCount++;
            }
        }

        private void readLikes(Tape tape) {
            int sheep = tape.takeNumber(0, sheepCount - 1);
            int man = tape.takeNumber(0, menCount - 1);
            int much = tape.takeNumber(0, MOST_LIKED);
            if (tape.fault == 0) {
                start.likes[sheep][man] = much;
            }
        }

        private void readFollows(Tape tape) {
            int sheep = tape.takeNumber(0, sheepCount - 1);
            int place = tape.nextPlace();
            int other = tape.takeNumber(0, sheepCount - 1);
            if (other == sheep) {
                tape.blame(place, Tape.BAD_NUMBER);
            }
            if (tape.fault == 0) {
                start.follows[sheep] = other;
            }
        }
    }

    /** What Mays and other acts change. */
    private static final class State {
        final int[] whose = new int[MOST_SHEEP];
        final int[] follows = new int[MOST_SHEEP];
        final int[][] likes = new int[MOST_SHEEP][MOST_MEN];
        final int[] coins = new int[MOST_MEN];
        int year = 0;

        void clear() {
            Arrays.fill(whose, NONE);
            Arrays.fill(follows, NONE);
            for (int sheep = 0; sheep < MOST_SHEEP; sheep++) {
                Arrays.fill(likes[sheep], 0);
            }
            Arrays.fill(coins, 0);
            year = 0;
        }

        void take(State other) {
            System.arraycopy(other.whose, 0, whose, 0, MOST_SHEEP);
            System.arraycopy(other.follows, 0, follows, 0, MOST_SHEEP);
            for (int sheep = 0; sheep < MOST_SHEEP; sheep++) {
                System.arraycopy(other.likes[sheep], 0, likes[sheep], 0, MOST_MEN);
            }
            System.arraycopy(other.coins, 0, coins, 0, MOST_MEN);
            year = other.year;
        }

        void like(int sheep, int man, int more) {
            likes[sheep][man] = Math.max(0, Math.min(MOST_LIKED, likes[sheep][man] + more));
        }

        int flock(int man, int sheepCount) {
            int many = 0;
            for (int sheep = 0; sheep < sheepCount; sheep++) {
                if (whose[sheep] == man) {
                    many++;
                }
            }
            return many;
        }

        int allCoins(int menCount) {
            int sum = 0;
            for (int man = 0; man < menCount; man++) {
                sum += coins[man];
            }
            return sum;
        }

        /** Whose all sheep are in one number, so that two states are alike if the numbers are. */
        int allWhose(int sheepCount) {
            int all = 0;
            for (int sheep = 0; sheep < sheepCount; sheep++) {
                all |= (whose[sheep] + 1) << (3 * sheep);
            }
            return all;
        }

        static int whoseIn(int all, int sheep) {
            return ((all >> (3 * sheep)) & 7) - 1;
        }
    }

    /** Where sheep were told to have been. */
    private static final class Notes {
        private static final int MOST_NOTES = 10;

        int count = 0;
        private final int[] behind = new int[MOST_NOTES];
        private final int[] sheep = new int[MOST_NOTES];
        private final int[] man = new int[MOST_NOTES];

        boolean hasRoom() {
            return count < MOST_NOTES;
        }

        void add(int n, int ofSheep, int ofMan) {
            if (hasRoom()) {
                behind[count] = n;
                sheep[count] = ofSheep;
                man[count] = ofMan;
                count++;
            }
        }

        void take(Notes other) {
            count = other.count;
            System.arraycopy(other.behind, 0, behind, 0, MOST_NOTES);
            System.arraycopy(other.sheep, 0, sheep, 0, MOST_NOTES);
            System.arraycopy(other.man, 0, man, 0, MOST_NOTES);
        }

        int lastMay() {
            int last = 0;
            for (int i = 0; i < count; i++) {
                last = Math.max(last, behind[i]);
            }
            return last;
        }

        boolean areSo(int n, State state) {
            for (int i = 0; i < count; i++) {
                if (behind[i] == n && state.whose[sheep[i]] != man[i]) {
                    return false;
                }
            }
            return true;
        }
    }

    /** All but the tape and the rules: what an image holds. */
    private static final class World {
        final Hill hill = new Hill();
        final State state = new State();
        final Notes notes = new Notes();
        int force = NONE;
        int drawn = 0;

        void tell(Hill told) {
            hill.take(told);
            state.take(told.start);
            notes.count = 0;
        }

        void take(World other) {
            hill.take(other.hill);
            state.take(other.state);
            notes.take(other.notes);
            force = other.force;
            drawn = other.drawn;
        }
    }

    /** How all was ahead of each of the last acts, the oldest giving way. */
    private static final class Acts {
        private static final int MOST_ACTS = 20;

        int count = 0;
        private int next = 0;
        private final State[] before = new State[MOST_ACTS];

        void forget() {
            count = 0;
        }

        void keep(State state) {
            if (before[next] == null) {
                before[next] = new State();
            }
            before[next].take(state);
            next = (next + 1) % MOST_ACTS;
            count = Math.min(count + 1, MOST_ACTS);
        }

        boolean takeBack(State state) {
            int last = (next + MOST_ACTS - 1) % MOST_ACTS;
            if (count == 0 || before[last] == null) {
                return false;
            }
            state.take(before[last]);
            next = last;
            count--;
            return true;
        }
    }

    /** A rule as steps on a stack; clauses stand one behind another. */
    private static final class Rule {
        /** The words of a sum, in the order in which the tape knows them. */
        static final int SHEEP = 0;
        static final int MAN = 1;
        static final int LIKES = 2;
        static final int SALT = 3;
        static final int HANDS = 4;
        static final int FLOCK = 5;
        static final int MINE = 6;
        static final int LED = 7;
        static final int WOOL = 8;
        static final int COINS = 9;
        static final int GRASS = 10;
        static final int YEAR = 11;
        static final int WORD_COUNT = 12;

        static final int NUMBER = 0;
        static final int WORD = 1;
        static final int GO = 2;
        static final int GO_IF = 3;
        static final int NOT = 4;
        static final int AND = 5;
        static final int OR = 6;
        static final int LESS = 7;
        static final int LESS_OR_SAME = 8;
        static final int SAME = 9;
        static final int MORE_OR_SAME = 10;
        static final int MORE = 11;
        static final int PLUS = 12;
        static final int MINUS = 13;
        static final int TIMES = 14;
        static final int OVER = 15;
        static final int REST = 16;

        /** A step is what it does and, this many bits higher, its number or word. */
        static final int STEP_BITS = 5;

        /** A sum to go by, two that wait on each of 11 levels of a test, and a fact's four: 27 are enough. */
        static final int STACK_SIZE = 32;

        private final int[] steps;

        Rule(int[] steps) {
            this.steps = steps;
        }

        long sum(long[] words, long[] stack) {
            int top = 0;
            for (int i = 0; i < steps.length; i++) {
                int step = steps[i] & ((1 << STEP_BITS) - 1);
                int with = steps[i] >> STEP_BITS;
                if (step == NUMBER || step == WORD) {
                    if (top >= stack.length || with < 0 || step == WORD && with >= words.length) {
                        return 0;
                    }
                    stack[top] = step == NUMBER ? with : words[with];
                    top++;
                } else if (top < waiting(step)) {
                    return 0;
                } else if (step == GO) {
                    return stack[top - 1];
                } else if (step == GO_IF) {
                    if (stack[top - 1] != 0) {
                        return stack[top - 2];
                    }
                    top -= 2;
                } else if (step == NOT) {
                    stack[top - 1] = 1 - stack[top - 1];
                } else {
                    stack[top - 2] = joined(step, stack[top - 2], stack[top - 1]);
                    top--;
                }
            }
            return 0;
        }

        private static int waiting(int step) {
            return step == GO || step == NOT ? 1 : 2;
        }

        private static long joined(int step, long a, long b) {
            switch (step) {
                case AND: return a & b;
                case OR: return a | b;
                case LESS: return a < b ? 1 : 0;
                case LESS_OR_SAME: return a <= b ? 1 : 0;
                case SAME: return a == b ? 1 : 0;
                case MORE_OR_SAME: return a >= b ? 1 : 0;
                case MORE: return a > b ? 1 : 0;
                case PLUS: return a + b;
                case MINUS: return a - b;
                case TIMES: return a * b;
                case OVER: return b == 0 ? 0 : a / b;
                case REST: return b == 0 ? 0 : a % b;
                default: return 0;
            }
        }
    }

    /** Reads a rule off the tape into steps. */
    private static final class RuleReader {
        private static final int MOST_CLAUSES = 12;
        private static final int DEEPEST = 10;
        private static final int MOST_VALUES = 60;
        private static final int MOST_NUMBER = 99999;

        /** Each step has a byte of the text for itself, so these are enough. */
        private final int[] steps = new int[Tape.LONGEST];
        private int stepCount = 0;
        private int valueCount = 0;

        void read(Tape tape) {
            stepCount = 0;
            valueCount = 0;
            tape.beginReading();
            for (int n = 0; n <= MOST_CLAUSES; n++) {
                int place = tape.nextPlace();
                if (!tape.pass(Tape.GO)) {
                    tape.blame(place, Tape.MISPLACED);
                } else if (n >= MOST_CLAUSES) {
                    tape.blame(place, Tape.TOO_MANY_CLAUSES);
                }
                readSum(tape);
                if (tape.fault == 0 && tape.pass(Tape.IF)) {
                    readTest(tape, 0);
                    write(Rule.GO_IF, 0);
                } else {
                    write(Rule.GO, 0);
                }
                if (!tape.hasMore()) {
                    break;
                }
            }
        }

        int[] written() {
            return Arrays.copyOf(steps, stepCount);
        }

        /** A test and its parts at once: an or waits until the part behind it has been written. */
        private void readTest(Tape tape, int depth) {
            int waiting = NONE;
            readFact(tape, depth);
            for (int n = 0; n < Tape.LONGEST && tape.fault == 0; n++) {
                if (tape.pass(Tape.AND)) {
                    readFact(tape, depth);
                    write(Rule.AND, 0);
                } else if (tape.pass(Tape.OR)) {
                    write(waiting, 0);
                    waiting = Rule.OR;
                    readFact(tape, depth);
                } else {
                    break;
                }
            }
            write(waiting, 0);
        }

        private void readFact(Tape tape, int depth) {
            int place = tape.nextPlace();
            boolean isNot = tape.pass(Tape.NOT);
            boolean isOpened = !isNot && tape.pass('[');
            if ((isNot || isOpened) && depth >= DEEPEST) {
                tape.blame(place, Tape.TOO_DEEP);
            } else if (isNot) {
                readFact(tape, depth + 1);
                write(Rule.NOT, 0);
            } else if (isOpened) {
                readTest(tape, depth + 1);
                if (tape.fault == 0 && !tape.pass(']')) {
                    tape.blame(tape.nextPlace(), Tape.MISPLACED);
                }
            } else {
                readSum(tape);
                int step = passComparing(tape);
                readSum(tape);
                write(step, 0);
            }
        }

        /** The step of the sign that compares, which must come next. */
        private int passComparing(Tape tape) {
            int place = tape.nextPlace();
            int kind = tape.nextKind();
            int step = comparingStep(kind);
            if (step == NONE || !tape.pass(kind)) {
                tape.blame(place, Tape.MISPLACED);
            } else if (isOneTooMany()) {
                tape.blame(place, Tape.TOO_MANY_VALUES);
            }
            return step;
        }

        private static int comparingStep(int kind) {
            switch (kind) {
                case '<': return Rule.LESS;
                case Tape.AT_MOST: return Rule.LESS_OR_SAME;
                case '=': return Rule.SAME;
                case Tape.AT_LEAST: return Rule.MORE_OR_SAME;
                case '>': return Rule.MORE;
                default: return NONE;
            }
        }

        /** A sum and its terms at once: a + or - waits until the term behind it has been written. */
        private void readSum(Tape tape) {
            int waiting = NONE;
            readValue(tape);
            for (int n = 0; n < Tape.LONGEST && tape.fault == 0; n++) {
                int kind = tape.nextKind();
                int step = joiningStep(kind);
                if (step == NONE || !tape.pass(kind)) {
                    break;
                }
                if (isOfTerms(step)) {
                    write(waiting, 0);
                    waiting = step;
                    readValue(tape);
                } else {
                    readValue(tape);
                    write(step, 0);
                }
            }
            write(waiting, 0);
        }

        private static boolean isOfTerms(int step) {
            return step == Rule.PLUS || step == Rule.MINUS;
        }

        private static int joiningStep(int kind) {
            switch (kind) {
                case '+': return Rule.PLUS;
                case '-': return Rule.MINUS;
                case '*': return Rule.TIMES;
                case '/': return Rule.OVER;
                case '%': return Rule.REST;
                default: return NONE;
            }
        }

        private void readValue(Tape tape) {
            int place = tape.nextPlace();
            int kind = tape.nextKind();
            boolean isWord = kind >= Tape.WORD && kind <= Tape.LAST_VALUE_WORD;
            if (isWord && tape.pass(kind)) {
                write(Rule.WORD, kind - Tape.WORD);
            } else {
                write(Rule.NUMBER, tape.takeNumber(0, MOST_NUMBER));
            }
            if (isOneTooMany()) {
                tape.blame(place, Tape.TOO_MANY_VALUES);
            }
        }

        private boolean isOneTooMany() {
            valueCount++;
            return valueCount > MOST_VALUES;
        }

        private void write(int step, int with) {
            if (step != NONE && stepCount < steps.length) {
                steps[stepCount] = step | with << Rule.STEP_BITS;
                stepCount++;
            }
        }
    }

    /** With whom each sheep goes. */
    private static final class Leaders {
        final int[] leader = new int[MOST_SHEEP];
        /** How many go with a leader, and how much wool these have; 0 of the others. */
        final int[] led = new int[MOST_SHEEP];
        final int[] wool = new int[MOST_SHEEP];

        void find(Hill hill, State state) {
            Arrays.fill(led, 0);
            Arrays.fill(wool, 0);
            for (int sheep = 0; sheep < hill.sheepCount; sheep++) {
                int first = leaderOf(sheep, state.follows);
                leader[sheep] = first;
                led[first]++;
                wool[first] += hill.wool[sheep];
            }
        }

        boolean leads(int sheep) {
            return leader[sheep] == sheep;
        }

        private static int leaderOf(int sheep, int[] follows) {
            int at = sheep;
            for (int n = 0; n < MOST_SHEEP && follows[at] != NONE; n++) {
                at = follows[at];
            }
            // So many steps without an end lead into a ring, and as many more go all around it.
            int least = at;
            for (int n = 0; n < MOST_SHEEP && follows[at] != NONE; n++) {
                at = follows[at];
                least = Math.min(least, at);
            }
            return least;
        }
    }

    /** Mays that go on from some state, apart from how it is. */
    private static final class Mays {
        final State state = new State();
        final Leaders leaders = new Leaders();
        /** The hill is a copy too, so that men can be tried out with other salt. */
        final Hill hill = new Hill();
        /** Leaders that choose nobody at the next May. */
        final boolean[] frightened = new boolean[MOST_SHEEP];
        private Rule rule = null;
        private final int[] flock = new int[MOST_MEN];
        private final int[] chosen = new int[MOST_SHEEP];
        private final long[] words = new long[Rule.WORD_COUNT];
        private final long[] stack = new long[Rule.STACK_SIZE];

        void begin(Hill ofHill, State from, Rule byRule) {
            hill.take(ofHill);
            rule = byRule;
            state.take(from);
            for (int sheep = 0; sheep < MOST_SHEEP; sheep++) {
                frightened[sheep] = false;
            }
            leaders.find(hill, state);
        }

        void goOn(int n) {
            for (int i = 0; i < n; i++) {
                choose();
                for (int man = 0; man < hill.menCount; man++) {
                    shear(man);
                    remember(man);
                }
                state.year++;
            }
        }

        /** The first part of a May: leaders choose, and the others go with them. */
        void choose() {
            countFlocks();
            for (int sheep = 0; sheep < hill.sheepCount; sheep++) {
                if (leaders.leads(sheep)) {
                    chosen[sheep] = frightened[sheep] ? NONE : choiceOf(sheep);
                }
            }
            for (int sheep = 0; sheep < hill.sheepCount; sheep++) {
                state.whose[sheep] = chosen[leaders.leader[sheep]];
            }
        }

        /** Whom a leader would choose now; the flocks are counted before. */
        int choiceOf(int sheep) {
            long most = 0;
            int best = NONE;
            for (int man = 0; man < hill.menCount; man++) {
                long sum = state.likes[sheep][man];
                if (rule != null) {
                    tellWords(sheep, man);
                    sum = rule.sum(words, stack);
                }
                if (sum > most) {
                    most = sum;
                    best = man;
                }
            }
            return best;
        }

        void countFlocks() {
            for (int man = 0; man < hill.menCount; man++) {
                flock[man] = state.flock(man, hill.sheepCount);
            }
        }

        private void tellWords(int sheep, int man) {
            words[Rule.SHEEP] = sheep;
            words[Rule.MAN] = man;
            words[Rule.LIKES] = state.likes[sheep][man];
            words[Rule.SALT] = hill.salt[man];
            words[Rule.HANDS] = hill.hands[man];
            words[Rule.FLOCK] = flock[man];
            words[Rule.MINE] = state.whose[sheep] == man ? 1 : 0;
            words[Rule.LED] = leaders.led[sheep];
            words[Rule.WOOL] = leaders.wool[sheep];
            words[Rule.COINS] = state.coins[man];
            words[Rule.GRASS] = hill.grass;
            words[Rule.YEAR] = state.year;
        }

        private void shear(int man) {
            int fed = 0;
            int wool = 0;
            for (int sheep = 0; sheep < hill.sheepCount && fed < hill.grass; sheep++) {
                if (state.whose[sheep] == man) {
                    fed++;
                    wool += hill.wool[sheep];
                }
            }
            state.coins[man] = Math.min(MOST_COINS, state.coins[man] + hill.price * wool);
        }

        private void remember(int man) {
            int many = state.flock(man, hill.sheepCount);
            if (many == 0) {
                return;
            }
            int tooMany = many - hill.hands[man];
            int more = tooMany > 0 ? -tooMany : hill.salt[man] / many;
            for (int sheep = 0; sheep < hill.sheepCount; sheep++) {
                if (state.whose[sheep] == man) {
                    state.like(sheep, man, more);
                }
            }
        }
    }

    /** What is asked; the parts of an answer stand in a row, in the order of the document. */
    private static final class Asked {
        private static final int SALTS = 5;
        private static final int SALT_STEP = 5;
        private static final int LAST_SETTLED = 40;
        private static final long DRAW_FACTOR = 1103515245L;
        private static final long DRAW_MORE = 12345L;
        private static final long DRAW_RANGE = 2147483648L;
        private static final long DRAW_SHARE = 65536L;

        final int[] answers = new int[3];
        private final Mays mays = new Mays();
        /** How many sheep a man has by each leader, without and with what is asked. */
        private final int[] had = new int[MOST_SHEEP];
        private final int[] gained = new int[MOST_SHEEP];
        private final int[] cost = new int[MOST_SHEEP];
        private final int[] firstHas = new int[SALTS * SALTS];
        private final int[] secondHas = new int[SALTS * SALTS];
        private final int[] whoseThen = new int[LAST_SETTLED + 1];
        private final int[] whoseByRule = new int[MOST_RULES + 1];
        private final int[] alike = new int[MOST_MEN + 1];

        private void answer(int first, int second, int third) {
            answers[0] = first;
            answers[1] = second;
            answers[2] = third;
        }

        void askWon(World world, Rule rule, int man, int many) {
            int sheepCount = world.hill.sheepCount;
            mays.begin(world.hill, world.state, rule);
            mays.countFlocks();
            for (int sheep = 0; sheep < sheepCount; sheep++) {
                // A leader looks at its own likings alone, so one at a time can be tried.
                had[sheep] = ledTo(sheep, man);
                mays.state.likes[sheep][man] = MOST_LIKED;
                gained[sheep] = ledTo(sheep, man) - had[sheep];
                cost[sheep] = 1;
            }
            askCheapest(sheepCount, many);
        }

        private int ledTo(int sheep, int man) {
            boolean comes = mays.leaders.leads(sheep) && mays.choiceOf(sheep) == man;
            return comes ? mays.leaders.led[sheep] : 0;
        }

        void askLeast(World world, int man, int many) {
            int sheepCount = world.hill.sheepCount;
            mays.begin(world.hill, world.state, null);
            for (int sheep = 0; sheep < sheepCount; sheep++) {
                had[sheep] = ledTo(sheep, man);
                int needed = likingNeeded(world, sheep, man);
                boolean canBeWon = mays.leaders.leads(sheep) && had[sheep] == 0 && needed <= MOST_LIKED;
                gained[sheep] = canBeWon ? mays.leaders.led[sheep] : 0;
                cost[sheep] = canBeWon ? needed - world.state.likes[sheep][man] : 1;
            }
            askCheapest(sheepCount, many);
        }

        private static int likingNeeded(World world, int sheep, int man) {
            int needed = 1;
            for (int other = 0; other < world.hill.menCount; other++) {
                int liked = world.state.likes[sheep][other];
                if (other != man) {
                    needed = Math.max(needed, other < man ? liked + 1 : liked);
                }
            }
            return needed;
        }

        /** The set of least cost by which so many sheep are had, of several the least. */
        private void askCheapest(int sheepCount, int many) {
            answer(NO, NO, NO);
            for (int set = 0; set < 1 << sheepCount; set++) {
                int has = 0;
                int costs = 0;
                for (int sheep = 0; sheep < sheepCount; sheep++) {
                    boolean isIn = (set >> sheep & 1) == 1;
                    has += had[sheep] + (isIn ? gained[sheep] : 0);
                    costs += isIn ? cost[sheep] : 0;
                }
                if (has >= many && (answers[0] == NO || costs < answers[0])) {
                    answer(costs, set, NO);
                }
            }
        }

        void askMen(Hill hill) {
            answer(NO, NO, NO);
            for (int set = 0; set < 1 << hill.menCount; set++) {
                int fed = 0;
                for (int man = 0; man < hill.menCount; man++) {
                    if ((set >> man & 1) == 1) {
                        fed += Math.min(hill.hands[man], hill.grass);
                    }
                }
                int many = Integer.bitCount(set);
                if (fed >= hill.sheepCount && (answers[0] == NO || many < answers[0])) {
                    answer(many, set, NO);
                }
            }
        }

        void askRests(World world, Rule rule, int one, int other, int n) {
            for (int first = 0; first < SALTS; first++) {
                for (int second = 0; second < SALTS; second++) {
                    mays.begin(world.hill, world.state, rule);
                    mays.hill.salt[one] = first * SALT_STEP;
                    mays.hill.salt[other] = second * SALT_STEP;
                    mays.goOn(n);
                    int two = first * SALTS + second;
                    firstHas[two] = mays.state.coins[one] - n * first * SALT_STEP;
                    secondHas[two] = mays.state.coins[other] - n * second * SALT_STEP;
                }
            }
            answer(0, NO, NO);
            for (int two = 0; two < SALTS * SALTS; two++) {
                if (isRest(two / SALTS, two % SALTS)) {
                    if (answers[0] == 0) {
                        answer(0, two / SALTS * SALT_STEP, two % SALTS * SALT_STEP);
                    }
                    answers[0]++;
                }
            }
        }

        private boolean isRest(int first, int second) {
            int two = first * SALTS + second;
            for (int another = 0; another < SALTS; another++) {
                if (firstHas[another * SALTS + second] > firstHas[two]
                        || secondHas[first * SALTS + another] > secondHas[two]) {
                    return false;
                }
            }
            return true;
        }

        void askStranger(World world, int liked) {
            mays.begin(world.hill, world.state, null);
            answer(0, 0, NO);
            for (int sheep = 0; sheep < world.hill.sheepCount; sheep++) {
                if (mays.leaders.leads(sheep) && mostLiked(world, sheep) < liked) {
                    answers[0] += mays.leaders.led[sheep];
                    answers[1] += mays.leaders.wool[sheep];
                }
            }
        }

        private static int mostLiked(World world, int sheep) {
            int most = 0;
            for (int man = 0; man < world.hill.menCount; man++) {
                most = Math.max(most, world.state.likes[sheep][man]);
            }
            return most;
        }

        void askSettled(World world, Rule rule) {
            mays.begin(world.hill, world.state, rule);
            for (int n = 0; n <= LAST_SETTLED; n++) {
                whoseThen[n] = mays.state.allWhose(world.hill.sheepCount);
                mays.goOn(1);
            }
            answer(NO, NO, NO);
            for (int n = 0; n < LAST_SETTLED; n++) {
                for (int later = n + 1; later <= LAST_SETTLED; later++) {
                    if (whoseThen[n] == whoseThen[later]) {
                        answer(world.state.year + n, later - n, NO);
                        return;
                    }
                }
            }
        }

        void askShared(World world) {
            int sheepCount = world.hill.sheepCount;
            mays.begin(world.hill, world.state, null);
            answer(0, 0, NO);
            for (int part = 1; part < 1 << sheepCount; part += 2) {
                int more = 0;
                boolean isWhole = true;
                for (int sheep = 0; sheep < sheepCount; sheep++) {
                    boolean isIn = (part >> sheep & 1) == 1;
                    more += isIn ? world.hill.wool[sheep] : -world.hill.wool[sheep];
                    isWhole &= isIn == ((part >> mays.leaders.leader[sheep] & 1) == 1);
                }
                if (isWhole && (answers[1] == 0 || Math.abs(more) < answers[0])) {
                    answer(Math.abs(more), part, NO);
                }
            }
        }

        void askTaught(World world, Rule rule, int man) {
            int sheepCount = world.hill.sheepCount;
            answer(hasIfTaught(world, rule, man, NONE, NONE), NONE, NONE);
            for (int sheep = 0; sheep < sheepCount; sheep++) {
                for (int other = 0; other < sheepCount; other++) {
                    if (other != sheep && other != world.state.follows[sheep]) {
                        int has = hasIfTaught(world, rule, man, sheep, other);
                        if (has > answers[0]) {
                            answer(has, sheep, other);
                        }
                    }
                }
            }
        }

        private int hasIfTaught(World world, Rule rule, int man, int sheep, int other) {
            mays.begin(world.hill, world.state, rule);
            if (sheep != NONE) {
                mays.state.follows[sheep] = other;
                mays.leaders.find(world.hill, mays.state);
            }
            mays.choose();
            return mays.state.flock(man, world.hill.sheepCount);
        }

        void askRuled(World world, Rule[] rules, int ruleCount) {
            answer(0, NO, NO);
            for (int number = NONE; number < ruleCount; number++) {
                if (whoseBehind(world, number == NONE ? null : rules[number], 0) != NONE) {
                    if (answers[0] == 0) {
                        answers[1] = number;
                    }
                    answers[0]++;
                }
            }
        }

        void askLook(World world, Rule[] rules, int ruleCount, int n) {
            int soCount = 0;
            for (int number = NONE; number < ruleCount; number++) {
                int all = whoseBehind(world, number == NONE ? null : rules[number], n);
                if (all != NONE && soCount < whoseByRule.length) {
                    whoseByRule[soCount] = all;
                    soCount++;
                }
            }
            answer(NO, NO, NO);
            for (int sheep = 0; sheep < world.hill.sheepCount && soCount > 0; sheep++) {
                int most = mostAlike(sheep, soCount);
                if (answers[0] == NO || most < answers[1]) {
                    answer(sheep, most, NO);
                }
            }
        }

        private int mostAlike(int sheep, int soCount) {
            Arrays.fill(alike, 0);
            int most = 0;
            for (int i = 0; i < soCount; i++) {
                int kind = State.whoseIn(whoseByRule[i], sheep) + 1;
                if (kind >= 0 && kind < alike.length) {
                    alike[kind]++;
                    most = Math.max(most, alike[kind]);
                }
            }
            return most;
        }

        /** Whose all sheep are behind May n from the text on, the first being May 0; NONE if a note is not so. */
        private int whoseBehind(World world, Rule rule, int n) {
            int last = Math.max(n, world.notes.lastMay());
            int all = 0;
            mays.begin(world.hill, world.hill.start, rule);
            for (int behind = 0; behind <= last; behind++) {
                mays.goOn(1);
                if (!world.notes.areSo(behind, mays.state)) {
                    return NONE;
                }
                if (behind == n) {
                    all = mays.state.allWhose(world.hill.sheepCount);
                }
            }
            return all;
        }

        void askFrights(World world, Rule rule, int m, int n, int p) {
            long x = world.drawn;
            int nobodys = 0;
            int coins = 0;
            for (int time = 0; time < m; time++) {
                mays.begin(world.hill, world.state, rule);
                for (int i = 0; i < n; i++) {
                    x = frighten(world.hill.sheepCount, x, p);
                    mays.goOn(1);
                }
                nobodys += mays.state.flock(NONE, world.hill.sheepCount);
                coins += mays.state.allCoins(world.hill.menCount);
            }
            answer(nobodys, coins, NO);
        }

        private long frighten(int sheepCount, long from, int p) {
            long x = from;
            for (int sheep = 0; sheep < sheepCount; sheep++) {
                if (mays.leaders.leads(sheep)) {
                    x = (x * DRAW_FACTOR + DRAW_MORE) % DRAW_RANGE;
                    mays.frightened[sheep] = x / DRAW_SHARE % 100 < p;
                }
            }
            return x;
        }
    }
}
