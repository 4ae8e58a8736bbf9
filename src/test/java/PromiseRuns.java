/** Each promise by runs whose answers were worked out by hand from the document. */
public final class PromiseRuns {
  private static final Due DUE = new Due();
  private static final int MIN = Integer.MIN_VALUE, MAX = Integer.MAX_VALUE;
  /** Three who sit some of three papers; slot 4 has one seat less. */
  private static final String THREE = "day 2 8;paper 0 2;paper 1 3;paper 6 2;"
      + "candidate 3 0 1;candidate 5 50 0;candidate 7 0 2;taken 4 1";
  /** Three who sit one paper, one seat. */
  private static final String ROW = "day 1 20;paper 0 3;candidate 1 0 0;candidate 1 0 0;candidate 1 0 0";
  /** One whose third paper takes 12 slots, and begins too late for the first day. */
  private static final String NO_WAY = "day 1 20;paper 15 5;paper 15 5;paper 15 6;candidate 7 100 0";

  private static void is(String call, int got, int want) { DUE.is(call, got, want); }

  private static void promises1To6() {
    ClashDay x = new ClashDay();
    int[] counts = {0, 0, 0, 0, 0, -1, 0, 0, 0, 0, 0, 0, 0};
    for (int i = 0; i < 13; i++) is("1 count " + i, x.count(i), counts[i]);
    is("2 feed", x.feed(0x64617920, 0x31203100, 0, 0, 0), 20);
    is("2 feed", x.feed(-1, -1, -1, -1, -1), 40);
    is("3 end too long", x.end(41), -1);
    is("3 end below 0", x.end(-1), -1);
    is("3 the tape", x.count(12), 40);
    is("3 end", x.end(40), 40);
    is("3 end", x.end(7), 7);
    is("2 the bytes, highest first", x.day(), 0);
    is("4 the tape is empty", x.count(12), 0);
    for (int i = 1; i <= 20; i++) is("2 feed", x.feed(1, 2, 3, 4, 5), 20 * i);
    is("2 feed beyond 400", x.feed(1, 2, 3, 4, 5), -1);
    is("2 the tape", x.count(12), 400);
    is("3 end", x.end(381), 381);
    is("2 feed beyond 400", x.feed(1, 2, 3, 4, 5), -1);
    is("3 end", x.end(0), 0);

    is("5 rule", Due.rule(x, "plan 1"), 0);
    is("5 rule", Due.rule(x, "plan finish"), 1);
    is("6 force beyond", x.force(2), -2);
    is("6 force below", x.force(-2), -2);
    is("6 force", x.force(1), -1);
    is("6 force", x.force(0), 1);
    is("6 force none", x.force(-1), 0);
    is("6 force none", x.force(-1), -1);

    x.force(1);
    x.seed(7);
    x.take(0, 1);
    x.note(0, 0, 0);
    is("4 day", Due.day(x, THREE), 3);
    is("4 the rule in force stays", x.count(5), 1);
    is("4 x stays", x.count(11), 7);
    is("4 no notes", x.count(9), 0);
    is("4 nothing to be undone", x.count(10), 0);
    is("4 turn 0", x.count(6), 0);
    is("4 all wait", x.count(7), 7);
    x.turn();
    is("4 day again", Due.day(x, "day 4 5"), 0);
    is("4 nobody waits", x.count(7), 0);
    is("4 turn 0", x.count(6), 0);
    is("4 taken of one the last told", Due.day(x, "day 9 1;taken 3 5;taken 3 2"), 0);
    is("4 taken", x.free(3), 7);
  }

  private static void promises7To10() {
    ClashDay x = new ClashDay();
    is("7 without a day", x.paper(0, 0), -1);
    is("8 without a day", x.candidate(0, 0), -1);
    is("9 without a day", x.free(0), -1);
    is("10 without a day", x.time(0, 0), -1);
    x = Due.of(THREE);
    int[][] papers = {{0, 2, 7}, {1, 3, 5}, {6, 2, 6}};
    for (int p = 0; p < 3; p++) for (int w = 0; w < 3; w++) is("7 paper " + p + " " + w, x.paper(p, w), papers[p][w]);
    is("7 paper 3", x.paper(3, 0), -1);
    is("7 paper -1", x.paper(-1, 0), -1);
    is("7 what 3", x.paper(0, 3), -1);
    is("7 what -1", x.paper(0, -1), -1);
    int[][] people = {{3, 0, 1, 1}, {5, 50, 0, 1}, {7, 0, 2, 1}};
    for (int c = 0; c < 3; c++) for (int w = 0; w < 4; w++) is("8 candidate", x.candidate(c, w), people[c][w]);
    is("8 candidate 3", x.candidate(3, 0), -1);
    is("8 candidate -1", x.candidate(-1, 0), -1);
    is("8 what 4", x.candidate(0, 4), -1);
    x.plan(1);
    is("8 planned", x.candidate(1, 3), 0);
    is("9 free", x.free(3), 2);
    is("9 free, one sits", x.free(2), 1);
    is("9 free, one is taken", x.free(4), 1);
    is("9 free of the last slot", x.free(29), 2);
    is("9 free beyond", x.free(30), -1);
    is("9 free below", x.free(-1), -1);
    x.take(2, 9);
    is("9 free, 0 at least", x.free(2), 0);
    is("10 time", x.time(0, 1), 3);
    is("10 time", x.time(1, 0), 3);
    is("10 not sat", x.time(1, 1), -1);
    is("10 no such paper", x.time(1, 3), -1);
    is("10 no such candidate", x.time(3, 0), -1);
    x = Due.of("day 1 1;paper 0 1;paper 0 6;paper 0 5;candidate 7 1 0;candidate 7 100 0;candidate 7 20 0");
    is("10 upwards", x.time(0, 0), 2);
    is("10 upwards", x.time(0, 1), 7);
    is("10 twice", x.time(1, 1), 12);
    is("10 no more than told", x.time(2, 2), 6);
  }

  private static void turns() {
    is("11 without a day", new ClashDay().turn(), -1);
    ClashDay x = Due.of(THREE);
    is("11 the least", x.turn(), 0);
    is("11 turn", x.count(6), 1);
    is("11 who waits", x.count(7), 6);
    is("11 kept", x.count(8), 1);
    is("17 begins", x.begins(0, 0), 0);
    is("17 begins", x.begins(0, 1), 3);
    is("17 not sat", x.begins(0, 2), -2);
    is("17 no such paper", x.begins(0, 3), -1);
    is("17 one that waits", x.begins(1, 0), -1);
    is("17 nobody", x.begins(-1, 0), -1);
    is("11 the next", x.turn(), 1);
    is("11 the last", x.turn(), 2);
    // slots 0, 1 and 4 are full: paper 0 in 2, paper 1 in 6, paper 2 in 11
    is("17 begins", x.begins(2, 0), 2);
    is("17 begins", x.begins(2, 1), 6);
    is("17 begins", x.begins(2, 2), 11);
    is("11 nobody", x.turn(), -2);
    is("11 turn", x.count(6), 4);
    is("11 an act all the same", x.count(10), 4);
    x = Due.of("day 1 1");
    for (int i = 1; i <= 999; i++) x.turn();
    is("11 turn 999", x.count(6), 999);
    is("11 in turn 999", x.turn(), -1);
    is("11 turn 999", x.count(6), 999);
  }

  private static int planned(String rule) {
    ClashDay x = Due.of(THREE);
    if (Due.rule(x, rule) != 0) throw new IllegalStateException(rule);
    x.force(0);
    return x.turn();
  }

  /** At first the three would finish in 6, 9, 11, be kept 1, 0, 4 slots, work 5, 6, 7. */
  private static void rules() {
    is("11 plan finish", planned("plan finish"), 2);
    is("11 plan 20-finish", planned("plan 20-finish"), 0);
    is("11 ties: the least", planned("plan 1"), 0);
    is("11 not above 0", planned("plan 0"), -2);
    is("11 below 0", planned("plan 0-1"), -2);
    is("11 candidate", planned("plan candidate"), 2);
    is("11 papers", planned("plan 1 if papers=3"), 2);
    is("11 extra", planned("plan extra"), 1);
    is("11 rest", planned("plan rest"), 2);
    is("11 nights", planned("plan nights"), -2);
    is("11 kept", planned("plan 1 if kept=0"), 1);
    is("11 kept", planned("plan 1 if kept=4"), 2);
    is("11 work", planned("plan 1 if work=6"), 1);
    is("11 busy", planned("plan 1 if busy=1"), 0);
    is("11 waiting", planned("plan 1 if waiting=3"), 0);
    is("11 turn", planned("plan 1 if turn=0"), 0);
    is("11 the first clause that holds", planned("plan 5 if candidate=2;plan 3 if candidate>=1;plan 4"), 2);
    is("11 the first clause that holds", planned("plan 1 if candidate=2;plan 3 if candidate>=1;plan 2"), 1);
    is("11 no clause holds", planned("plan 1 if candidate=7"), -2);
    is("11 * ahead of +", planned("plan 1 if 2+3*4=14"), 0);
    is("11 from the left", planned("plan 1 if 20-3-4=13"), 0);
    is("11 from the left", planned("plan 1 if 100/7*2%5=3"), 0);
  }

  private static void ruleArithmetic() {
    is("11 / towards 0", planned("plan 1 if 0-7/2=0-3"), 0);
    is("11 of a VALUE below 0", planned("plan 1 if kept-5*0=kept"), 0);
    is("11 / by 0", planned("plan 1 if 5/0=0 and 5%0=0"), 0);
    is("11 % its rest", planned("plan 1 if 17%5=2"), 0);
    is("11 and ahead of or", planned("plan 1 if 1=1 or 1=1 and 1=2"), 0);
    is("11 brackets", planned("plan 1 if [1=1 or 1=1] and 1=2"), -2);
    is("11 not binds closest", planned("plan 1 if not 1=2 and 1=1"), 0);
    is("11 not", planned("plan 1 if not 1=1 or 1=2"), -2);
    is("11 signs", planned("plan 1 if 1<2 and 2<=2 and 2=2 and 2>=2 and 2>1"), 0);
    is("11 signs", planned("plan 1 if 2<2 or 3<=2 or 1=2 or 1>=2 or 2>2"), -2);
    ClashDay x = Due.of(ROW);
    Due.rule(x, "plan 1 if turn=0 and busy=0;plan 1 if turn=1 and busy=1 and waiting=2 and candidate=2");
    x.force(0);
    is("11 all is free", x.turn(), 0);
    is("11 one seat is not", x.turn(), 2);
    x = Due.of("day 9 9;paper 0 1;candidate 1 0 0;taken 5 3;taken 6 9");
    Due.rule(x, "plan busy-8");
    x.force(0);
    is("11 no more than the seats", x.when(0), 0);
    // 99999 to the fourth is above 2 to the 66th, and goes round
    boolean round = 99999L * 99999 * 99999 * 99999 < 0;
    is("11 64 bits", planned("plan 1 if 99999*99999*99999*99999<0"), round ? 0 : -2);
    is("11 64 bits", planned("plan 99999*99999*99999 if candidate=1;plan 99999*99999"), 1);
  }

  private static void promises12To15() {
    ClashDay x = new ClashDay();
    is("12 without a day", x.plan(0), -1);
    is("13 without a day", x.drop(0), -1);
    is("14 without a day", x.delay(0, 1), -1);
    is("15 without a day", x.take(0, 1), -1);
    x = Due.of(THREE);
    is("12 plan", x.plan(2), 11);
    is("12 planned already", x.plan(2), -1);
    is("12 nobody", x.plan(3), -1);
    is("12 nobody", x.plan(-1), -1);
    is("12 turn stays", x.count(6), 0);
    is("12 an act", x.count(10), 1);
    is("12 no plan", Due.of(NO_WAY).plan(0), -1);
    is("13 one that waits", x.drop(0), -1);
    is("13 nobody", x.drop(6), -1);
    is("13 drop", x.drop(2), 3);
    is("13 an act", x.count(10), 2);
    is("13 the seats are free", x.free(0), 2);
    x.plan(0);
    x.plan(1);
    is("14 no such paper", x.delay(3, 1), -1);
    is("14 by 0", x.delay(0, 0), -1);
    is("14 by 10", x.delay(0, 10), -1);
    is("14 delay", x.delay(1, 9), 10);
    is("14 who sits it waits", x.count(7), 5);
    is("14 15 at most", x.delay(1, 9), 15);
    is("14 not later", x.delay(1, 1), -1);
    is("14 START", x.paper(1, 0), 15);
    is("15 as many", x.take(4, 1), -1);
    is("15 take", x.take(4, 9), 1);
    is("15 take", x.take(4, 0), 9);
    is("15 10", x.take(4, 10), -1);
    is("15 below 0", x.take(4, -1), -1);
    is("15 no such slot", x.take(30, 1), -1);
    is("15 take", x.take(0, 9), 0);
    is("15 who is planned stays", x.begins(1, 0), 0);
  }

  private static void undo() {
    is("16 nothing", new ClashDay().undo(), -1);
    ClashDay x = Due.of(THREE);
    x.turn();
    x.plan(2);
    x.drop(0);
    x.delay(1, 2);
    x.take(9, 2);
    x.force(-1);
    x.note(1, 1, 1);
    x.seed(3);
    is("16 undo take", x.undo(), 4);
    is("16 take", x.free(9), 2);
    is("16 undo delay", x.undo(), 3);
    is("16 START", x.paper(1, 0), 1);
    is("16 planned again", x.count(7), 3);
    is("16 begins", x.begins(2, 1), 5);
    is("16 undo drop", x.undo(), 2);
    is("16 planned again", x.begins(0, 1), 3);
    is("16 undo plan", x.undo(), 1);
    is("16 waits", x.count(7), 6);
    is("16 undo turn", x.undo(), 0);
    is("16 turn", x.count(6), 0);
    is("16 waits", x.count(7), 7);
    is("16 no more", x.undo(), -1);
    is("16 notes stay", x.count(9), 1);
    is("16 x stays", x.count(11), 3);
    for (int i = 1; i <= 23; i++) x.take(0, i % 2);
    is("16 20 at most", x.count(10), 20);
    for (int i = 19; i >= 0; i--) is("16 undo", x.undo(), i);
    is("16 the 21st", x.undo(), -1);
    is("16 as behind the third", x.free(0), 1);
  }

  private static void could() {
    is("18 without a day", new ClashDay().could(0, 0), -3);
    ClashDay x = Due.of(THREE);
    int[][] due = {{0, 1, 6, 0, 3, -1, -1, -1}, {0, 0, 9, 0, -1, 6, -1, -1}, {0, 4, 11, 0, 4, 9, -1, -1}};
    for (int c = 0; c < 3; c++) for (int w = 0; w < 8; w++) is("18 could " + c + " " + w, x.could(c, w), due[c][w]);
    is("18 what 8", x.could(0, 8), -3);
    is("18 what -1", x.could(0, -1), -3);
    is("18 nobody", x.could(3, 0), -3);
    is("19 orders", x.orders(0), 2);
    is("19 orders", x.orders(2), 6);
    is("20 there is a plan", x.clash(0, 0), -2);
    x.plan(0);
    is("18 planned", x.could(0, 0), -3);
    is("19 planned", x.orders(0), -1);
    is("20 planned", x.clash(0, 0), -1);
    // by three orders kept 5, and the end is 12: the first of them
    int[] then = {0, 5, 12, 0, 5, 10};
    for (int w = 0; w < 6; w++) is("18 the first order " + w, x.could(2, w), then[w]);
    overnight();
    clash();
  }

  private static void overnight() {
    ClashDay x = Due.of("day 1 4;paper 0 3;paper 0 3;candidate 3 0 1");
    int[] due = {1, 17, 23, 0, 20, -1};
    for (int w = 0; w < 6; w++) is("18 overnight " + w, x.could(0, w), due[w]);
    x = Due.of("day 1 20;paper 15 5;paper 15 5;candidate 3 0 3");
    int[] rested = {1, 0, 25, 15, 20, -1};
    for (int w = 0; w < 6; w++) is("18 a night is rest enough " + w, x.could(0, w), rested[w]);
    // neither of the two may sit on the first day: on the second one they do rest
    x = Due.of("day 1 1;paper 0 2;paper 0 2;candidate 3 0 3");
    int[] both = {2, 23, 27, 20, 25, -1};
    for (int w = 0; w < 6; w++) is("18 both overnight " + w, x.could(0, w), both[w]);
    // one of both must wait for the second day: fewer slots are kept if it is the short one
    x = Due.of("day 1 6;paper 0 6;paper 0 1;candidate 3 0 0;taken 0 1");
    is("18 one overnight", x.could(0, 0), 1);
    is("18 the long one on the first day", x.could(0, 3), 1);
  }

  private static void clash() {
    is("19 without a day", new ClashDay().orders(0), -1);
    is("20 without a day", new ClashDay().clash(0, 0), -1);
    ClashDay x = Due.of(NO_WAY);
    for (int w = 0; w < 8; w++) is("18 no plan " + w, x.could(0, w), -2);
    is("19 no orders", x.orders(0), 0);
    is("20 how many", x.clash(0, 0), 1);
    is("20 the set", x.clash(0, 1), 4);
    is("20 what 2", x.clash(0, 2), -1);
    is("20 what -1", x.clash(0, -1), -1);
    is("20 nobody", x.clash(1, 0), -1);
    // any two of the three papers are too long for the second day
    x = Due.of("day 1 1;paper 0 6;paper 1 6;paper 2 6;candidate 6 0 0;candidate 7 0 0;candidate 4 0 0");
    is("20 two", x.clash(0, 0), 2);
    is("20 the set", x.clash(0, 1), 6);
    is("20 the least", x.clash(1, 1), 3);
    is("20 one alone can be", x.clash(2, 1), -2);
    x = Due.of("day 9 20;paper 0 2;paper 0 2;candidate 3 0 0");
    is("19 both orders", x.orders(0), 2);
    x = Due.of("day 1 2;paper 0 2;paper 0 2;candidate 3 0 0;taken 20 1;taken 22 1;taken 24 1;taken 26 1;taken 28 1");
    is("19 hours and no seats overnight", x.orders(0), 0);
  }

  private static void line() {
    is("21 without a day", new ClashDay().line(0, 0), -1);
    is("22 without a day", new ClashDay().spelt(0, -1), -1);
    is("23 without a day", new ClashDay().first(0, 1, 0), -1);
    ClashDay x = Due.of(THREE);
    is("21 one that waits", x.line(0, 0), -1);
    is("22 one that waits", x.spelt(0, -1), -1);
    x.turn();
    String line = "AAkBBB........................";
    for (int s = 0; s < 30; s++) is("21 line " + s, x.line(0, s), line.charAt(s));
    is("21 slot 30", x.line(0, 30), -1);
    is("21 slot -1", x.line(0, -1), -1);
    String spelt = "2Ak3B24.";
    is("22 how long", x.spelt(0, -1), 8);
    for (int i = 0; i < 8; i++) is("22 spelt " + i, x.spelt(0, i), spelt.charAt(i));
    is("22 behind", x.spelt(0, 8), -2);
    is("22 far behind", x.spelt(0, MAX), -2);
    is("22 below NONE", x.spelt(0, -2), -1);
    is("22 below NONE", x.spelt(0, MIN), -1);
    x.turn();
    x.turn();
    String last = "kkAAkkBBBkkCC.................";
    for (int s = 0; s < 30; s++) is("21 line " + s, x.line(2, s), last.charAt(s));
    x = Due.of(ROW);
    for (int i = 0; i < 3; i++) x.turn();
    // 3A27. and 3k3A24. and 6k3A21.
    is("23 A ahead of k", x.first(1, 0, 0), 0);
    is("23 in common", x.first(1, 0, 1), 1);
    is("23 3 ahead of 6", x.first(1, 2, 0), 1);
    is("23 nothing in common", x.first(2, 1, 1), 0);
    String third = "6k3A21.";
    is("22 how long", x.spelt(2, -1), 7);
    for (int i = 0; i < 7; i++) is("22 spelt " + i, x.spelt(2, i), third.charAt(i));
    is("23 one alone", x.first(1, 1, 0), -1);
    is("23 what 2", x.first(0, 1, 2), -1);
    is("23 what -1", x.first(0, 1, -1), -1);
    is("23 nobody", x.first(0, 3, 0), -1);
    x.drop(1);
    is("23 one that waits", x.first(0, 1, 0), -1);
    x = Due.of("day 2 20;paper 0 3;candidate 1 0 0;candidate 1 0 0");
    x.plan(0);
    x.plan(1);
    is("23 spelt alike", x.first(0, 1, 0), -2);
    is("23 all in common", x.first(0, 1, 1), 5);
  }

  private static void watched() {
    is("24 without a day", new ClashDay().watchers(1, 0), -1);
    is("25 without a day", new ClashDay().chain(1, 0, 0), -1);
    is("26 without a day", new ClashDay().apart(0, 1), -1);
    ClashDay x = Due.of(ROW);
    is("24 nobody is kept", x.watchers(1, 0), 0);
    is("24 nobody is kept", x.watchers(1, 1), 0);
    x.turn();
    is("25 not kept", x.chain(1, 0, 0), -2);
    is("25 one that waits", x.chain(1, 1, 0), -1);
    x.turn();
    x.turn();
    is("24 two", x.watchers(1, 0), 2);
    is("24 the slot", x.watchers(1, 1), 0);
    is("24 one keeps both", x.watchers(2, 0), 1);
    is("24 n 0", x.watchers(0, 0), -1);
    is("24 n 7", x.watchers(7, 0), -1);
    is("24 what 2", x.watchers(1, 2), -1);
    is("25 the first one", x.chain(1, 1, 0), 0);
    is("25 the other one", x.chain(1, 2, 0), 1);
    is("25 keeps the watcher", x.chain(1, 2, 5), 1);
    is("25 not kept any more", x.chain(1, 2, 6), -2);
    is("25 both with one", x.chain(2, 2, 2), 0);
    is("25 n 0", x.chain(0, 1, 0), -1);
    is("25 n 7", x.chain(7, 1, 0), -1);
    is("25 slot 30", x.chain(1, 1, 30), -1);
    is("25 nobody", x.chain(1, 3, 0), -1);
    // kept are 1 in slots 0 to 2, 2 in 0 to 5, and 0 in 3: it takes the watcher that is free by then
    x = Due.of("day 1 20;paper 0 3;paper 3 1;candidate 1 0 0;candidate 1 0 0;candidate 2 0 0;candidate 1 0 0");
    for (int i = 0; i < 4; i++) x.turn();
    is("25 kept in", x.line(2, 3), 'k');
    is("25 kept in", x.line(3, 3), 'k');
    is("25 one that comes later has the least", x.chain(1, 2, 3), 0);
    is("25 who was kept keeps", x.chain(1, 3, 3), 1);
    is("24 the first slot", x.watchers(1, 1), 0);
    x = Due.of("day 1 20;paper 0 3;paper 3 1;candidate 1 0 0;candidate 2 0 0;candidate 1 0 0;candidate 1 0 0");
    for (int who : new int[] {2, 3, 0, 1}) x.plan(who);
    // kept are 0 in slots 0 to 5, 1 in 3 to 8, 3 in 0 to 2
    int[][] chain = {{0, -2, -2, 1}, {0, -2, -2, 1}, {0, -2, -2, 1}, {0, 1, -2, -2}, {0, 1, -2, -2}, {0, 1, -2, -2},
        {-2, 1, -2, -2}};
    for (int i = 0; i < 7; i++) for (int c = 0; c < 4; c++) is("25 chain " + c + " " + i, x.chain(1, c, i), chain[i][c]);
    x = Due.of("day 1 20;paper 0 2;paper 1 1;candidate 1 0 0;candidate 1 0 0;candidate 2 0 0");
    for (int i = 0; i < 3; i++) x.turn();
    is("24 two", x.watchers(1, 0), 2);
    is("24 in slot 1", x.watchers(1, 1), 1);
    is("24 one", x.watchers(6, 0), 1);
    is("24 in slot 0", x.watchers(6, 1), 0);
    apart();
  }

  private static void apart() {
    ClashDay x = Due.of(THREE);
    for (int i = 0; i < 3; i++) x.turn();
    is("26 slots 9 and 10", x.apart(2, 1), 2);
    is("26 the other way", x.apart(1, 2), 0);
    is("26 in all slots one sits", x.apart(2, 0), 0);
    is("26 one alone", x.apart(1, 1), -1);
    is("26 nobody", x.apart(1, 3), -1);
    x.drop(1);
    is("26 one that waits", x.apart(2, 1), -1);
    x = Due.of("day 9 20;paper 0 6;paper 0 1;candidate 3 0 0;candidate 2 0 0");
    x.plan(0);
    x.plan(1);
    is("26 the first one sits all along", x.apart(0, 1), 0);
    is("17 begins", x.begins(0, 1), 6);
    x = Due.of(ROW);
    for (int i = 0; i < 3; i++) x.turn();
    is("26 behind the other one's end", x.apart(2, 0), 3);
  }

  private static void promises27To30() {
    ClashDay none = new ClashDay();
    is("27 without a day", none.best(0), -2);
    is("28 without a day", none.harm(1, 0), -1);
    is("29 without a day", none.ahead(1, 0), -1);
    is("30 without a day", none.when(0), -1);
    ClashDay x = Due.of(ROW);
    int[] row = {3, 9, 0, 1, 2, -1};
    for (int w = 0; w < 6; w++) is("27 best " + w, x.best(w), row[w]);
    is("27 what 6", x.best(6), -2);
    is("27 what -1", x.best(-1), -2);
    x.plan(1);
    int[] others = {2, 9, 0, 2, -1, -1};
    for (int w = 0; w < 6; w++) is("27 of those that wait " + w, x.best(w), others[w]);
    ClashDay y = Due.of("day 1 20;paper 0 6;paper 0 1;candidate 1 0 0;candidate 2 0 0");
    int[] turned = {2, 1, 1, 0, -1, -1};
    for (int w = 0; w < 6; w++) is("27 fewest kept " + w, y.best(w), turned[w]);
    y = Due.of("day 1 20;paper 0 1" + ";candidate 1 0 0".repeat(6));
    int[] four = {4, 6, 0, 1, 2, 3};
    for (int w = 0; w < 6; w++) is("27 four at most " + w, y.best(w), four[w]);
    y = Due.of("day 3 3");
    int[] nobody = {0, 0, -1, -1, -1, -1};
    for (int w = 0; w < 6; w++) is("27 nobody " + w, y.best(w), nobody[w]);

    y = Due.of("day 1 20;paper 0 6;paper 0 6;candidate 1 0 0;candidate 2 100 0");
    is("28 which", y.harm(9, 0), 1);
    is("28 how many", y.harm(9, 1), 1);
    is("28 none is harmed: the least", y.harm(1, 0), 0);
    is("28 none is harmed", y.harm(1, 1), 0);
    is("28 nothing changes", y.paper(1, 0), 0);
    is("28 n 0", y.harm(0, 0), -1);
    is("28 n 10", y.harm(10, 0), -1);
    is("28 what 2", y.harm(1, 2), -1);
    is("28 no such paper", Due.of(NO_WAY).harm(1, 0), -2);
    is("28 no such paper", Due.of(NO_WAY).harm(1, 1), -2);
    ahead();
  }

  private static void ahead() {
    ClashDay x = Due.of(ROW);
    int[][] due = {{0, 0, 0}, {1, 0, 7}, {2, 3, 63}, {3, 9, 511}, {3, 9, 511}};
    for (int n = 0; n < 5; n++) for (int w = 0; w < 3; w++) is("29 ahead " + n, x.ahead(n, w), due[n][w]);
    is("29 ahead 20", x.ahead(20, 0), 3);
    is("29 ahead 21", x.ahead(21, 0), -1);
    is("29 ahead -1", x.ahead(-1, 0), -1);
    is("29 what 3", x.ahead(1, 3), -1);
    is("29 nothing changes", x.count(6), 0);
    is("30 when, in turn 0", x.when(0), 0);
    is("30 when", x.when(1), 1);
    is("30 when", x.when(2), 2);
    is("30 nobody", x.when(3), -1);
    x.turn();
    is("30 when, this turn the first", x.when(1), 1);
    is("30 a turn is told by its number", x.when(2), 2);
    is("30 planned", x.when(0), -1);
    Due.rule(x, "plan 1 if turn > 19 and candidate = 1;plan 1 if turn > 20");
    x.force(0);
    is("30 in turn 20, the last of 20", x.when(1), 20);
    is("30 in none of 20", x.when(2), -2);
    is("29 by the rule in force", x.ahead(19, 0), 1);
    is("29 by the rule in force", x.ahead(20, 0), 2);
    x.turn();
    is("30 of 20 from this one on", x.when(2), 21);
    is("30 nothing changes", x.count(6), 2);
    whenBeyondHand();
  }

  /** By hand TURN is 999 at most; what would be goes on all the same. */
  private static void whenBeyondHand() {
    ClashDay x = Due.of(ROW);
    Due.rule(x, "plan 0");
    x.force(0);
    for (int i = 0; i < 999; i++) x.turn();
    is("30 in none of 20", x.when(0), -2);
    x.force(-1);
    is("30 in turn 999", x.when(0), 999);
    is("30 behind turn 999", x.when(2), 1001);
  }

  private static void notes() {
    ClashDay none = new ClashDay();
    is("31 without a day", none.extras(0, 0), -1);
    is("32 without a day", none.resting(0), -1);
    is("35 without a day", none.note(0, 0, 0), -2);
    is("35 none then, without a day", none.note(-1, 0, 0), 0);
    is("35 none then, whatever the rest", none.note(-1, MIN, MAX), 0);
    is("35 none", none.count(9), 0);
    is("36 without a day", none.ruled(0), -3);
    is("37 without a day", none.look(0, 0), -1);
    ClashDay x = Due.of(ROW);
    is("31 no notes", x.extras(0, 0), 6);
    is("31 no notes", x.extras(0, 1), 0);
    is("32 no notes", x.resting(0), 15);
    is("35 note", x.note(0, 3, 0), 1);
    is("31 four slots or more", x.extras(0, 0), 5);
    is("31 the least", x.extras(0, 1), 20);
    is("31 of another one", x.extras(1, 0), 0);
    is("31 of another one", x.extras(1, 1), -2);
    is("35 note", x.note(0, 4, 1), 2);
    is("31 four slots", x.extras(0, 0), 1);
    is("31 four slots", x.extras(0, 1), 20);
    x.take(3, 1);
    x.plan(0);
    x.delay(0, 3);
    is("31 as the text told it", x.extras(0, 0), 1);
    is("31 nobody", x.extras(3, 0), -1);
    is("31 what 2", x.extras(0, 2), -1);
    is("32 nobody", x.resting(-1), -1);
    is("35 n 10", x.note(10, 0, 0), -2);
    is("35 n -2", x.note(-2, 0, 0), -2);
    is("35 slot 30", x.note(0, 30, 0), -2);
    is("35 10 seats", x.note(0, 0, 10), -2);
    is("35 how many", x.count(9), 2);
    for (int i = 3; i <= 10; i++) is("35 note", x.note(9, 29, 1), i);
    is("35 an eleventh", x.note(9, 29, 1), -2);
    is("35 none then", x.note(-1, 99, 99), 0);
    is("35 none then", x.count(9), 0);
    x = Due.of("day 1 20;paper 0 1;paper 0 1;candidate 3 0 0");
    x.note(0, 3, 0);
    is("32 rest 2", x.resting(0), 4);
    x.note(-1, 0, 0);
    x.note(0, 2, 1);
    is("32 not rest 1", x.resting(0), 13);
    notesBehindTurns();
  }

  /** TURN n plans candidate n, in the three slots from 3 * n on. */
  private static void notesBehindTurns() {
    for (int n = 0; n < 3; n++) {
      ClashDay x = Due.of(ROW);
      x.note(n, 3 * n, 0);
      x.note(n, 3 * n + 3, 1);
      is("35 behind turn " + n, x.resting(0), 15);
      is("35 behind turn " + n + ", as told alone", x.extras(n, 0), 1);
      is("36 behind turn " + n, x.ruled(1), -1);
      x.note(n, 3 * n + 2, 1);
      is("35 not ahead of turn " + n, x.resting(0), 0);
      is("35 not ahead of turn " + n, x.extras(n, 1), -2);
      is("36 not ahead of turn " + n, x.ruled(0), 0);
    }
    ClashDay x = Due.of("day 1 20;paper 0 3;candidate 1 0 0");
    Due.rule(x, "plan 1 if turn = 9");
    x.force(0);
    x.note(8, 0, 1);
    x.note(9, 0, 0);
    is("35 behind turn 9", x.resting(0), 15);
    is("35 behind turn 9", x.extras(0, 0), 6);
    is("36 behind turn 9", x.ruled(1), 0);
    is("36 behind turn 9", x.ruled(0), 1);
  }

  private static void ruled() {
    ClashDay x = Due.of(ROW);
    is("36 none alone", x.ruled(0), 1);
    is("36 none alone", x.ruled(1), -1);
    Due.rule(x, "plan candidate");
    Due.rule(x, "plan 0");
    is("36 all", x.ruled(0), 3);
    // by none and by rule 0 one sits in slots 0 to 2
    is("37 slot 0", x.look(0, 0), 0);
    is("37 two alike", x.look(0, 1), 2);
    x.note(0, 0, 0);
    is("36 two", x.ruled(0), 2);
    is("37 nothing parts them", x.look(0, 0), 0);
    is("37 nothing parts them", x.look(0, 1), 2);
    is("37 nothing parts them yet", x.look(1, 1), 2);
    // the third one is planned without a rule alone
    is("37 slot 6", x.look(2, 0), 6);
    is("37 one alike", x.look(2, 1), 1);
    is("37 n 10", x.look(10, 0), -1);
    is("37 n -1", x.look(-1, 0), -1);
    is("37 what 2", x.look(3, 2), -1);
    x.note(2, 6, 1);
    is("36 one", x.ruled(0), 1);
    is("36 rule 0", x.ruled(1), 0);
    is("37 it alone", x.look(9, 0), 0);
    is("37 it alone", x.look(9, 1), 1);
    x.note(0, 0, 1);
    is("36 none such", x.ruled(0), 0);
    is("36 none such", x.ruled(1), -2);
    is("37 no rule is so", x.look(3, 0), -2);
    is("37 no rule is so", x.look(3, 1), -2);
    is("36 what 2", x.ruled(2), -3);
    is("36 what -1", x.ruled(-1), -3);
    is("36 nothing changes", x.count(7), 7);
    x = Due.of("day 1 20;paper 0 3;candidate 1 0 0");
    Due.rule(x, "plan 1 if turn = 9");
    Due.rule(x, "plan 1 if turn = 10");
    is("37 none alone has planned behind turn 8", x.look(8, 1), 2);
    x.note(8, 0, 1);
    is("37 turn 9 parts them", x.look(9, 0), 0);
    is("37 turn 9 parts them", x.look(9, 1), 1);
  }

  private static void promises33And34() {
    is("33 without a day", new ClashDay().rests(0, 1, 0), -1);
    is("34 without a day", new ClashDay().pence(1, 0), -1);
    ClashDay x = Due.of(ROW);
    // one paper each: more rest costs nothing
    int[] due = {1, 3, 3};
    for (int w = 0; w < 3; w++) is("33 rests " + w, x.rests(0, 1, w), due[w]);
    is("33 what 3", x.rests(0, 1, 3), -1);
    is("33 one alone", x.rests(1, 1, 0), -1);
    is("33 nobody", x.rests(0, 3, 0), -1);
    // neither can be planned: each has 0 always
    ClashDay y = Due.of("day 1 20;paper 15 6;candidate 1 100 0;candidate 1 100 0");
    int[] all = {16, 0, 0};
    for (int w = 0; w < 3; w++) is("33 neither can be " + w, y.rests(0, 1, w), all[w]);
    // four papers of one slot each: a slot of rest costs three, and gains two
    y = Due.of("day 9 20;paper 0 1;paper 0 1;paper 0 1;paper 0 1;candidate 15 0 3;candidate 15 0 3");
    int[] least = {1, 0, 0};
    for (int w = 0; w < 3; w++) is("33 rest costs " + w, y.rests(1, 0, w), least[w]);
    // three papers: it costs two, and gains two
    y = Due.of("day 9 20;paper 0 1;paper 0 1;paper 0 1;candidate 7 0 3;candidate 7 0 3");
    is("33 all alike", y.rests(0, 1, 0), 16);

    is("34 they wait", x.pence(100, 0), 0);
    x.turn();
    is("34 one alone", x.pence(9999, 0), 9999);
    is("33 planned", x.rests(0, 1, 0), -1);
    x.turn();
    is("34 the least first", x.pence(101, 0), 51);
    is("34 the rest", x.pence(101, 1), 50);
    is("34 they wait", x.pence(101, 2), 0);
    is("34 nothing", x.pence(0, 0), 0);
    is("34 nobody", x.pence(1, 3), -1);
    is("34 below 0", x.pence(-1, 0), -1);
    is("34 beyond", x.pence(10000, 0), -1);
    // work 5, 6 and 7 of 18: 100 / 18 is 27.7, 33.3, 38.8
    y = Due.of(THREE);
    for (int i = 0; i < 3; i++) y.turn();
    is("34 lost 14 of 18", y.pence(100, 0), 28);
    is("34 lost 6 of 18", y.pence(100, 1), 33);
    is("34 lost 16 of 18", y.pence(100, 2), 39);
    is("34 one is left", y.pence(1, 2), 1);
    is("34 one is left", y.pence(1, 0), 0);
  }

  private static void draws() {
    is("39 without a day", new ClashDay().ill(1, 1, 0, 0), -1);
    ClashDay x = Due.of(ROW);
    is("38 0 at first", x.seed(5), 0);
    is("38 below 0", x.seed(-1), -1);
    is("38 what it was", x.seed(MAX), 5);
    is("38 what it was", x.seed(0), MAX);
    is("39 nobody falls ill", x.ill(2, 2, 0, 0), 4);
    is("39 kept", x.ill(2, 2, 0, 1), 6);
    is("39 x as it was", x.count(11), 0);
    is("39 m 0", x.ill(0, 1, 0, 0), -1);
    is("39 m 6", x.ill(6, 1, 0, 0), -1);
    is("39 n 0", x.ill(1, 0, 0, 0), -1);
    is("39 n 10", x.ill(1, 10, 0, 0), -1);
    is("39 p -1", x.ill(1, 1, -1, 0), -1);
    is("39 p 101", x.ill(1, 1, 101, 0), -1);
    is("39 what 2", x.ill(1, 1, 0, 2), -1);
    Due.rule(x, "plan 0");
    for (int i = 0; i < 3; i++) x.plan(i);
    x.force(0);
    // of x 0 the first draw is 0, the second one 21468: of 3 candidates 0 falls ill
    is("39 one falls ill", x.ill(1, 1, 1, 0), 2);
    is("39 it was not kept", x.ill(1, 1, 1, 1), 9);
    is("39 draw 0 is not below 0", x.ill(1, 1, 0, 0), 3);
    // the third draw is 9988 (88), the fourth one 22117 (17 of 100, 1 of 3)
    is("39 from draw to draw", x.ill(2, 1, 50, 0), 5);
    is("39 each time from now on", x.ill(2, 1, 50, 1), 18);
    is("39 each time from now on", x.ill(2, 1, 89, 1), 15);
    is("39 nothing stays", x.count(7), 0);
    ClashDay y = Due.of("day 1 20;paper 0 1;candidate 1 0 0");
    Due.rule(y, "plan 0");
    y.plan(0);
    y.force(0);
    is("39 one candidate alone", y.ill(1, 1, 100, 0), 0);
    y = Due.of("day 1 1");
    is("39 no candidates", y.ill(5, 9, 100, 0), 0);
  }

  private static void images() {
    ClashDay x = new ClashDay();
    is("42 never made", x.back(0), -1);
    is("41 image", x.image(3), 0);
    is("41 image 4", x.image(4), -1);
    is("41 image -1", x.image(-1), -1);
    is("4 day", Due.day(x, ROW), 3);
    Due.rule(x, "plan 1");
    x.force(0);
    x.turn();
    x.note(1, 1, 1);
    x.seed(77);
    is("41 image", x.image(0), 1);
    x.turn();
    x.take(29, 1);
    x.delay(0, 2);
    x.force(-1);
    x.note(-1, 0, 0);
    x.seed(1);
    Due.rule(x, "plan 2");
    is("4 another day", Due.day(x, THREE), 3);
    Due.tell(x, "plan");
    is("42 back", x.back(0), 1);
    int[] counts = {1, 20, 1, 3, 2, 0, 1, 6, 0, 1, 0, 77, 4};
    for (int i = 0; i < 13; i++) is("42 count " + i, x.count(i), counts[i]);
    is("42 START", x.paper(0, 0), 0);
    is("42 taken", x.free(29), 1);
    is("42 begins", x.begins(0, 0), 0);
    is("42 nothing can be undone", x.undo(), -1);
    is("42 the text", x.extras(0, 0), 0);
    is("42 images stay", x.back(0), 1);
    is("42 no day", x.back(3), 0);
    is("42 no day", x.count(0), 0);
    is("42 no day", x.turn(), -1);
    is("42 none in force", x.count(5), -1);
    is("42 rules stay", x.count(4), 2);
    is("42 back 4", x.back(4), -1);
    is("42 back -1", x.back(-1), -1);
    is("42 back 1", x.back(1), -1);
    is("40 what 13", x.count(13), -1);
    is("40 what -1", x.count(-1), -1);
  }

  public static void main(String[] args) {
    promises1To6();
    promises7To10();
    turns();
    rules();
    ruleArithmetic();
    promises12To15();
    undo();
    could();
    line();
    watched();
    promises27To30();
    notes();
    ruled();
    promises33And34();
    draws();
    images();
    DUE.end();
  }
}
