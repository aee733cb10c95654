/** Texts, and the place and kind of the fault that is due; none at all where the place is below 0. */
public final class FaultsTest {
    private static final int SOUND = -1;

    private final Checks checks = new Checks();

    /** What the document makes of a fault. */
    private static int told(int place, int kind) {
        return -2 - (1 + 8 * place + kind);
    }

    private void hill(String text, int place, int kind) {
        MaySheep x = new MaySheep();
        int got = Feeding.hill(x, text);
        if (place == SOUND) {
            checks.holds("hill " + text + " is sound: " + got, got >= 0);
        } else {
            checks.due("hill " + text, got, told(place, kind));
            checks.due("no hill", x.may(), -1);
        }
        checks.due("the tape is empty", x.count(13), 0);
    }

    private void rule(String text, int place, int kind) {
        MaySheep x = new MaySheep();
        int got = Feeding.rule(x, text);
        checks.due("rule " + text, got, place == SOUND ? 0 : told(place, kind));
        checks.due("rules", x.count(4), place == SOUND ? 1 : 0);
        checks.due("the tape is empty", x.count(13), 0);
    }

    /** The fault is where the bar stands, which is taken out. */
    private void hillAt(String text, int kind) {
        hill(text.replace("|", ""), text.indexOf('|'), kind);
    }

    private void ruleAt(String text, int kind) {
        rule(text.replace("|", ""), text.indexOf('|'), kind);
    }

    private void signsOfHills() {
        hillAt("|", 0);
        hillAt("   |", 0);
        hillAt("hill|", 0);
        hillAt("hill |", 0);
        hillAt("hill 1|", 0);
        hillAt("hill 1   |", 0);
        hillAt("hill 1 2;|", 0);
        hillAt("hill 1 2 ; |", 0);
        hillAt("|;hill 1 2", 0);
        hillAt("|hills 1 2", 0);
        hillAt("|hil 1 2", 0);
        hillAt("|hillz 1 2", 0);
        hillAt("hill|` 1 2", 0);
        hillAt("hill|{ 1 2", 0);
        hillAt("hill 1|/2", 0);
        hillAt("hill 1|:2", 0);
        hillAt("|Hill 1 2", 0);
        hillAt("|go 1", 0);
        hillAt("|7", 0);
        hillAt("hill |a 1 2", 0);
        hillAt("hill 1|x2", 0);
        hillAt("hill 1 2|x", 0);
        hillAt("hill 1 2 |3", 0);
        hillAt("hill 1 2 |sheep 1", 0);
        hillAt("hill 1|;sheep 1", 0);
        hillAt("hill |-1 2", 0);
        hillAt("hill 1|,2", 0);
        hillAt("hill 1 2;|\0", 0);
        hillAt("hill 1 2|\0", 0);
        hillAt("hill 1\t2".replace("\t", "|\t"), 0);
        hillAt("hill 1 2;sheep|", 0);
        hillAt("hill 1 2;man 1|", 0);
        hillAt("hill 1 2;sheep 1;man 1 1;likes 0 0|", 0);
        hillAt("hill 1 2;sheep 1;sheep 1;follows 0|", 0);
        hillAt("hill 1 2;;".replace(";;", ";|;"), 0);
        hillAt("hill 1 2;|sheeps 1", 0);
        hillAt("hill 1 2;|not", 0);
        hill("hill1 2", SOUND, 0);
        hill("  hill  1  2  ", SOUND, 0);
        hill("hill 00001 00020", SOUND, 0);
        hill("hill 1 2;sheep1;man1 1;likes0 0 99;sheep 1;follows0 1", SOUND, 0);
    }

    private void numbersOfHills() {
        hillAt("hill |0 1", 1);
        hillAt("hill |10 1", 1);
        hillAt("hill |000001 1", 1);
        hillAt("hill |99999999999999999999 1", 1);
        hillAt("hill |4294967297 1", 1);
        hillAt("hill 1 |0", 1);
        hillAt("hill 1 |21", 1);
        hill("hill 9 20", SOUND, 0);
        hillAt("hill 1 2;sheep |0", 1);
        hillAt("hill 1 2;sheep |10", 1);
        hillAt("hill 1 2;man |0 1", 1);
        hillAt("hill 1 2;man |10 1", 1);
        hillAt("hill 1 2;man 9 |21", 1);
        hill("hill 1 2;man 9 20;man 1 0", SOUND, 0);
        hillAt("hill 1 2;likes |0 0 0", 1);
        hillAt("hill 1 2;sheep 1;likes 0 |0 0", 1);
        hillAt("hill 1 2;man 1 1;likes |0 0 0", 1);
        hillAt("hill 1 2;sheep 1;man 1 1;likes |1 9 100", 1);
        hillAt("hill 1 2;sheep 1;man 1 1;likes 0 |1 100", 1);
        hillAt("hill 1 2;sheep 1;man 1 1;likes 0 0 |100", 1);
        hill("hill 1 2;sheep 1;man 1 1;likes 0 0 99", SOUND, 0);
        hillAt("hill 1 2;follows |0 1", 1);
        hillAt("hill 1 2;sheep 1;follows 0 |1;sheep 1", 1);
        hillAt("hill 1 2;sheep 1;sheep 2;follows 0 |2", 1);
        hillAt("hill 1 2;sheep 1;sheep 2;follows 1 |1", 1);
        hillAt("hill 1 2;sheep 1;sheep 2;follows 1   |00001", 1);
        hillAt("hill 1 2;sheep 1;sheep 2;follows |2 2", 1);
    }

    private void clausesOfHills() {
        hillAt("|sheep 1;hill 1 2", 4);
        hillAt("  |follows 1", 4);
        hillAt("hill 1 2;|hill 1 2", 4);
        hillAt("hill 1 2;sheep 1;|hill", 4);
        String sheep = "hill 1 2" + ";sheep 1".repeat(8);
        hill(sheep, SOUND, 0);
        hillAt(sheep + ";|sheep", 4);
        hillAt(sheep + ";  |sheep 77", 4);
        hillAt(sheep + ";|sheepy 77", 0);
        String men = "hill 1 2" + ";man 1 1".repeat(4);
        hill(men, SOUND, 0);
        hillAt(men + "; |man 1 1", 4);
        String most = "hill1 2" + ";sheep1".repeat(8) + ";man1 1".repeat(4) + ";likes0 0 1".repeat(14)
            + ";follows0 1".repeat(13);
        checks.due("40 clauses", most.split(";").length, 40);
        hill(most, SOUND, 0);
        hillAt(most + ";|likes", 4);
        hillAt(most + ";  |follows", 4);
        hillAt(most + ";|man 1 1", 4);
        hillAt(most + ";|hill", 4);
        hillAt(most + ";|hil", 0);
        hillAt(most + ";|;", 0);
        hillAt(most + ";|", 0);
        hillAt(most + " |7", 0);
    }

    private void signsOfRules() {
        ruleAt("|", 0);
        ruleAt("go|", 0);
        ruleAt("|hill 1 2", 0);
        ruleAt("|goman", 0);
        ruleAt("go |if 1=1", 0);
        ruleAt("go 1+|", 0);
        ruleAt("go |+1", 0);
        ruleAt("go |-1", 0);
        ruleAt("go 1 |2", 0);
        ruleAt("go 1 |man", 0);
        ruleAt("go man|2", 0);
        ruleAt("go |foo", 0);
        ruleAt("go |not", 0);
        ruleAt("go |follows", 0);
        ruleAt("go |hill", 0);
        ruleAt("go |[1]", 0);
        ruleAt("go 1|<2", 0);
        ruleAt("go 1 if|", 0);
        ruleAt("go 1 if |;go 1", 0);
        ruleAt("go 1 if 1|", 0);
        ruleAt("go 1 if 1 |and 1=1", 0);
        ruleAt("go 1 if 1|]", 0);
        ruleAt("go 1 if 1=|", 0);
        ruleAt("go 1 if 1= |not 1", 0);
        ruleAt("go 1 if 1=1|=1", 0);
        ruleAt("go 1 if 1=|<1", 0);
        ruleAt("go 1 if 1< |=1", 0);
        ruleAt("go 1 if 1<|>1", 0);
        ruleAt("go 1 if 1<=|=1", 0);
        ruleAt("go 1 if 1|!=1", 0);
        ruleAt("go 1 if 1=1 |if 1=1", 0);
        ruleAt("go 1 if 1=1|]", 0);
        ruleAt("go 1 if [1=1|", 0);
        ruleAt("go 1 if [1=1|;go 1", 0);
        ruleAt("go 1 if [1|]", 0);
        ruleAt("go 1 if [|]", 0);
        ruleAt("go 1 if [1=1]|]", 0);
        ruleAt("go 1 if [1=1] |[1=1]", 0);
        ruleAt("go 1 if [1=1] |+1=1", 0);
        ruleAt("go 1 if 1=1 |not 1=1", 0);
        ruleAt("go 1 if 1=1 and|", 0);
        ruleAt("go 1 if 1=1 or |and 1=1", 0);
        ruleAt("go 1 if not|", 0);
        ruleAt("go 1 if |notman=1", 0);
        ruleAt("go 1 if 1=1 |ornot 1=1", 0);
        ruleAt("go 1;|", 0);
        ruleAt("go 1;|;go 1", 0);
        ruleAt("go 1 |go 1", 0);
        ruleAt("go 1;|if 1=1", 0);
        ruleAt("go 1*|*2", 0);
        ruleAt("go 1|\0", 0);
        ruleAt("go 1|\u00e9", 0);
        ruleAt("go |\u0161".replace('\u0161', (char) 0xe1), 0);
        rule("go1if1=1or2<=3and4>=5", SOUND, 0);
        rule("  go  man  if  not[1=1]or[[2<3]]and not 1>1  ;go 1  ", SOUND, 0);
        rule("go sheep+man+likes+salt+hands+flock+mine+led+wool+coins+grass+year", SOUND, 0);
        rule("go 1-2*3/4%5", SOUND, 0);
    }

    private void numbersOfRules() {
        rule("go 99999", SOUND, 0);
        rule("go 00000", SOUND, 0);
        ruleAt("go |100000", 1);
        ruleAt("go 1+|000000", 1);
        ruleAt("go 1 if 1<|1234567890123", 1);
        ruleAt("go 1 |123456", 0);
    }

    private void depthOfRules() {
        rule("go 1 if " + "[".repeat(10) + "1=1" + "]".repeat(10), SOUND, 0);
        ruleAt("go 1 if " + "[".repeat(10) + "|[1=1" + "]".repeat(11), 2);
        rule("go 1 if " + "not ".repeat(10) + "1=1", SOUND, 0);
        ruleAt("go 1 if " + "not ".repeat(10) + "|not 1=1", 2);
        rule("go 1 if " + "not [".repeat(5) + "1=1" + "]".repeat(5), SOUND, 0);
        ruleAt("go 1 if " + "not [".repeat(5) + "|not 1=1" + "]".repeat(5), 2);
        ruleAt("go 1 if " + "not [".repeat(5) + "  |[1=1" + "]".repeat(5), 2);
        rule("go 1 if " + "[not ".repeat(5) + "1=1" + "]".repeat(5) + " and [[not 1=1]] or not 1=1", SOUND, 0);
        rule("go 1 if " + "[".repeat(9) + "not 1=1 and not 1=1 or not 1=1" + "]".repeat(9) + " and "
            + "[".repeat(10) + "1=1" + "]".repeat(10), SOUND, 0);
        ruleAt("go 1 if " + "[".repeat(9) + "not |not 1=1" + "]".repeat(9), 2);
        ruleAt("go 1 if " + "[".repeat(10) + "|nots 1=1", 0);
        ruleAt("go 1 if " + "[".repeat(10) + "|]", 0);
    }

    private void valuesOfRules() {
        String sixty = "go 1" + "+1".repeat(59);
        rule(sixty, SOUND, 0);
        ruleAt(sixty + "+|1", 3);
        ruleAt(sixty + "* |man", 3);
        ruleAt(sixty + "+|many", 0);
        ruleAt(sixty + "+|123456", 1);
        ruleAt(sixty + "+|", 0);
        ruleAt(sixty + "+|;", 0);
        ruleAt(sixty + " if |1=1", 3);
        ruleAt(sixty + ";go |1", 3);
        ruleAt(sixty + ";|so 1", 0);
        ruleAt("go 1" + "+1".repeat(58) + " if 1 |=1", 3);
        ruleAt("go 1" + "+1".repeat(58) + " if 1 |<=1", 3);
        ruleAt("go 1" + "+1".repeat(58) + " if 1 |]", 0);
        ruleAt("go 1" + "+1".repeat(57) + " if 1=|1", 3);
        rule("go 1" + "+1".repeat(56) + " if 1=1", SOUND, 0);
        ruleAt("go 1" + "+1".repeat(56) + " if 1=1 and |1=1", 3);
        rule("go 1+1+1 if 1=1" + " or not [1=1]".repeat(18), SOUND, 0);
        ruleAt("go 1+1+1 if 1=1" + " or not [1=1]".repeat(18) + " or [|7=7]", 3);
    }

    private void clausesOfRules() {
        String twelve = "go 1" + ";go 1".repeat(11);
        rule(twelve, SOUND, 0);
        ruleAt(twelve + ";|go 1", 4);
        ruleAt(twelve + "; |go", 4);
        ruleAt(twelve + ";|g", 0);
        ruleAt(twelve + ";|", 0);
        ruleAt(twelve + ";|if", 0);
        ruleAt(twelve + " |1", 0);
    }

    private void longTexts() {
        rule("go 1" + " ".repeat(396), SOUND, 0);
        rule("go " + " ".repeat(396) + "1", SOUND, 0);
        rule("go" + " ".repeat(398), 400, 0);
        rule("g".repeat(400), 0, 0);
        rule("go 1 if 1" + " ".repeat(390) + "<", 400, 0);
        rule("go " + "1".repeat(397), 3, 1);
        rule("go " + "+".repeat(397), 3, 0);
        rule("go 1 if " + "[".repeat(392), 18, 2);
        hill(";".repeat(400), 0, 0);
        hill("hill 1 2" + " ".repeat(391) + ";", 400, 0);
    }

    public static void main(String[] args) {
        FaultsTest t = new FaultsTest();
        t.signsOfHills();
        t.numbersOfHills();
        t.clausesOfHills();
        t.signsOfRules();
        t.numbersOfRules();
        t.depthOfRules();
        t.valuesOfRules();
        t.clausesOfRules();
        t.longTexts();
        t.checks.exit("faults");
    }
}
