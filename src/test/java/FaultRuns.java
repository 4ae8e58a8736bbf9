/** The two languages and their FAULTS: promises 4 and 5. */
public final class FaultRuns {
  private static final Due DUE = new Due();

  private static void day(String text, int place, int kind) {
    DUE.is("day \"" + text + "\"", Due.day(new ClashDay(), text), -2 - (1 + 8 * place + kind));
  }

  private static void dayIs(String text, int people) {
    DUE.is("day \"" + text + "\"", Due.day(new ClashDay(), text), people);
  }

  private static void rule(String text, int place, int kind) {
    DUE.is("rule \"" + text + "\"", Due.rule(new ClashDay(), text), -2 - (1 + 8 * place + kind));
  }

  private static void ruleIs(String text) {
    DUE.is("rule \"" + text + "\"", Due.rule(new ClashDay(), text), 0);
  }

  private static void days() {
    day("", 0, 0);
    day("   ", 3, 0);
    day("day", 3, 0);
    day("day ", 4, 0);
    day("day 1", 5, 0);
    day("day 0 1", 4, 1);
    day("day 10 1", 4, 1);
    day("day 1 0", 6, 1);
    day("day 1 21", 6, 1);
    day("day 000001 1", 4, 1);
    dayIs("day 00001 00020", 0);
    dayIs("  day9 1  ", 0);
    day("days 1 1", 0, 0);
    day("Day 1 1", 0, 0);
    day("day 1 1 1", 8, 0);
    day("day 1 1x", 7, 0);
    day("day 1 1;", 8, 0);
    day("day 1 1; ", 9, 0);
    day(";day 1 1", 0, 0);
    day("day 1 -1", 6, 0);
    day("day\t1 1", 3, 0);
    day("day 1 1" + (char) 0, 7, 0);
    day("day 1 1" + (char) 225, 7, 0);
    day("paper 0 1", 0, 4);
    for (String word : new String[] {"papers", "extra", "turn", "plan", "if", "not", "candidates", "dayz"})
      day(word + " 1", 0, 0);
    day(" taken 0 1;day 1 1", 1, 4);
    day("day 1 1;day 1 1", 8, 4);
    day("day 1 1;if 1", 8, 0);
    day("day 1 1;paper 16 1", 14, 1);
    day("day 1 1;paper 0 0", 16, 1);
    day("day 1 1;paper 0 7", 16, 1);
    dayIs("day 1 1;paper 15 6", 0);
    day("day 1 1;candidate 1 0 0", 18, 1);
    day("day 1 1;paper 0 1;candidate 0 0 0", 28, 1);
    day("day 1 1;paper 0 1;candidate 2 0 0", 28, 1);
    day("day 1 1;paper 0 1;candidate 3 0 0;paper 0 1", 28, 1);
    day("day 1 1;paper 0 1;candidate 1 101 0", 30, 1);
    day("day 1 1;paper 0 1;candidate 1 0 4", 32, 1);
    day("day 1 1;paper 0 1;candidate 1 0", 31, 0);
    dayIs("day 1 1;paper 0 1;candidate 1 100 3;taken 29 9", 1);
    day("day 1 1;taken 30 0", 14, 1);
    day("day 1 1;taken 0 10", 16, 1);
    String five = "day 1 1" + ";paper 0 1".repeat(5);
    dayIs(five + ";candidate 31 0 0".repeat(6), 6);
    day(five + ";paper 0 1", five.length() + 1, 4);
    day(five + ";papers 0 1", five.length() + 1, 0);
    String six = five + ";candidate 1 0 0".repeat(6);
    day(six + "; candidate 1 0 0", six.length() + 2, 4);
    String forty = "day 1 1" + ";taken0 0".repeat(39);
    dayIs(forty, 0);
    day(forty + ";taken0 0", forty.length() + 1, 4);
    day(forty + ";day 1 1", forty.length() + 1, 4);
    day(forty + ";", forty.length() + 1, 0);
    day(forty + ";take", forty.length() + 1, 0);
  }

  private static void rules() {
    rule("", 0, 0);
    rule("plan", 4, 0);
    rule("plans 1", 0, 0);
    rule("day 1 1", 0, 0);
    rule("plan x", 5, 0);
    for (String word : new String[] {"day", "paper", "taken", "plan", "if", "or", "and", "not", "candidates", "z"})
      rule("plan " + word, 5, 0);
    rule("plan if", 5, 0);
    rule("plan -1", 5, 0);
    rule("plan 1;", 7, 0);
    rule("plan 1 if", 9, 0);
    rule("plan 1 iff 1=1", 7, 0);
    rule("plan 1 < 2", 7, 0);
    rule("plan 5 %", 8, 0);
    rule("plan 5 5", 7, 0);
    rule("plan 1 if busy = 1]", 18, 0);
    rule("plan 1 if [busy = 1", 19, 0);
    rule("plan 1 if []", 11, 0);
    rule("plan 1 if 1", 11, 0);
    rule("plan 1 if 1 < = 2", 14, 0);
    rule("plan 1 if 1 =< 2", 13, 0);
    rule("plan 1 if 1 <> 2", 13, 0);
    rule("plan 1 if 1 = 1 and", 19, 0);
    rule("plan 1 if notkept = 1", 10, 0);
    rule("plan [1]", 5, 0);
    rule("plan 1 if [1] = 1", 12, 0);
    rule("plan 100000", 5, 1);
    rule("plan 000000", 5, 1);
    ruleIs("plan 99999");
    ruleIs("plan1+candidate-papers*extra/rest%nights+kept+finish+work+busy+waiting+turn");
    ruleIs(" plan 1if not[1<2and 3<=4or 5=6]or 7>=8 and 9>10 ; plan 2 ");
    deep();
    many();
  }

  private static void deep() {
    String ten = "plan 1 if " + "not ".repeat(10);
    ruleIs(ten + "1=1");
    rule(ten + "not 1=1", 50, 2);
    rule(ten + "[1=1]", 50, 2);
    rule(ten + "nots", 50, 0);
    String half = "plan 1 if " + "not [".repeat(5);
    ruleIs(half + "1=1" + "]".repeat(5));
    rule(half + " not 1=1", 36, 2);
    rule(half + "[", 35, 2);
    // what is closed again lies not within
    ruleIs("plan 1 if " + "not ".repeat(10) + "1=1 and " + "not ".repeat(10) + "1=1");
  }

  private static void many() {
    String sixty = "plan 1" + "+1".repeat(59);
    ruleIs(sixty);
    int end = sixty.length();
    rule(sixty + "+ 1", end + 2, 3);
    rule(sixty + "+ 123456", end + 2, 1);
    rule(sixty + "+ x", end + 2, 0);
    rule(sixty + "+", end + 1, 0);
    rule(sixty + ";plan 1", end + 6, 3);
    String fiftyEight = "plan 1" + "+1".repeat(57);
    end = fiftyEight.length();
    rule(fiftyEight + " if 1=1", end + 6, 3);
    String fiftyNine = fiftyEight + "+1";
    rule(fiftyNine + " if 1=1", end + 7, 3);
    rule(fiftyNine + " if 1 1", end + 8, 0);
    ruleIs("plan 1" + "+1".repeat(56) + " if 1=1");
    String twelve = "plan 1" + ";plan 1".repeat(11);
    ruleIs(twelve);
    rule(twelve + "; plan 1", twelve.length() + 2, 4);
    rule(twelve + "; plum 1", twelve.length() + 2, 0);
    rule(twelve + ";", twelve.length() + 1, 0);
  }

  /** What stays where a text is refused: all but the tape, which is empty behind a FAULT. */
  private static void stays() {
    ClashDay x = Due.of("day 3 7;paper 0 1;candidate 1 0 0");
    DUE.is("rule", Due.rule(x, "plan 1"), 0);
    x.force(0);
    x.seed(9);
    x.turn();
    x.note(0, 0, 2);
    DUE.is("a refused day", Due.day(x, "day 1"), -2 - 41);
    int[] counts = {3, 7, 1, 1, 1, 0, 1, 0, 0, 1, 1, 9, 0};
    for (int i = 0; i < 13; i++) DUE.is("behind a refused day, count " + i, x.count(i), counts[i]);
    DUE.is("the text that was told", x.ruled(0), 2);
    DUE.is("the TAPE from its begin", x.feed(0x706c616e, 0x20310000, 0, 0, 0), 20);
    x.end(4);
    DUE.is("a refused rule", x.rule(), -2 - 33);
    for (int i = 0; i < 13; i++) DUE.is("behind a refused rule, count " + i, x.count(i), counts[i]);
    DUE.is("an empty TAPE is a refused day", x.day(), -3);
    DUE.is("an empty TAPE is a refused rule", x.rule(), -3);
    for (int i = 1; i < 6; i++) {
      DUE.is("rule", Due.rule(x, "plan 1"), i);
      DUE.is("the TAPE", x.count(12), 0);
    }
    DUE.is("a seventh rule", Due.rule(x, "plan 1"), -1);
    DUE.is("the TAPE", x.count(12), 6);
    DUE.is("a seventh rule with a FAULT", Due.rule(x, "plan"), -1);
    DUE.is("the TAPE", x.count(12), 4);
    DUE.is("RULES", x.count(4), 6);
    DUE.is("undo", x.undo(), 0);
  }

  public static void main(String[] args) {
    days();
    rules();
    stays();
    DUE.end();
  }
}
