/** Edges of promises 17 to 42: what is asked, NOTES, DRAWS and IMAGES (part III of the terms). */
final class EdgesOfAnswers {
  private static final int MIN = Edge.MIN, MAX = Edge.MAX;
  private static final String ALL = EdgesOfActs.ALL, THREE = EdgesOfActs.THREE, ROW = EdgesOfActs.ROW;
  /** One without a PLAN: 12 slots are left on neither day. */
  private static final String NO_PLAN = "day 1 20;paper 9 6;candidate 1 100 0";
  private static final String SIX = "day 1 20;paper 0 1" + ";candidate 1 0 0".repeat(6);

  private static void is(String what, int got, int want) { Edge.is(what, got, want); }

  private static ClashDay planned(String day) {
    ClashDay x = Due.of(day);
    for (int c = 0; c < x.count(3); c++) if (x.plan(c) < 0) throw new IllegalStateException(day);
    return x;
  }

  // ---- promise 17: begins

  static void p17_begins_the_first_and_the_last() {
    ClashDay x = planned(ALL);
    int[] last = {0, 3, 6, 10, 15};
    for (int p = 0; p < 5; p++) is("candidate 5, paper " + p, x.begins(5, p), last[p]);
    is("candidate 0", x.begins(0, 0), 0);
    is("candidate 4", x.begins(4, 4), 20);
  }

  static void p17_begins_of_a_paper_they_do_not_sit() {
    ClashDay x = planned(ALL);
    for (int p = 1; p < 5; p++) is("candidate 0, paper " + p, x.begins(0, p), -2);
    is("candidate 4, paper 0", x.begins(4, 0), -2);
  }

  static void p17_begins_without_these() {
    Edge.sameWithDay("paper 3 of 3", x -> x.begins(0, 3), -1);
    Edge.sameWithDay("candidate 4 of 4", x -> x.begins(4, 0), -1);
    Edge.sameInAll("paper -1", x -> x.begins(0, -1), -1);
    Edge.sameInAll("paper 32", x -> x.begins(0, 32), -1);
    Edge.sameInAll("candidate -1", x -> x.begins(-1, 0), -1);
    Edge.sameInAll("candidate 32", x -> x.begins(32, 0), -1);
    Edge.sameInAll("MAX", x -> x.begins(MAX, MAX), -1);
    Edge.sameInAll("MIN", x -> x.begins(MIN, MIN), -1);
    is("paper 5 of 5", planned(ALL).begins(5, 5), -1);
  }

  static void p17_begins_of_one_that_waits() {
    Edge.sameWithDay("a paper they sit", x -> x.begins(1, 0), -1);
    Edge.sameWithDay("a paper they do not sit", x -> x.begins(1, 1), -1);
  }

  static void p17_begins_without_a_day() {
    is("begins", Edge.noDay().begins(0, 0), -1);
  }

  // ---- promise 18: could

  static void p18_could_each_what() {
    ClashDay x = Due.of(ALL);
    int[][] due = {{0, 0, 1, 0, -1, -1, -1, -1}, {1, 5, 30, -1, -1, -1, -1, 20}, {0, 1, 20, 0, 3, 6, 10, 15}};
    int[] who = {0, 4, 5};
    for (int i = 0; i < 3; i++)
      for (int w = 0; w < 8; w++) is("could " + who[i] + " " + w, x.could(who[i], w), due[i][w]);
  }

  static void p18_could_of_a_paper_that_is_not_there() {
    ClashDay x = Due.of("day 1 20;paper 0 1;candidate 1 0 0");
    is("paper 0", x.could(0, 3), 0);
    for (int w = 4; w < 8; w++) is("what " + w, x.could(0, w), -1);
  }

  static void p18_could_for_another_what() {
    for (int w : new int[] {8, -1, MIN, MAX}) Edge.sameInAll("what " + w, x -> x.could(1, w), -3);
    is("and no PLAN", Due.of(NO_PLAN).could(0, 8), -3);
    is("and no PLAN", Due.of(NO_PLAN).could(0, -1), -3);
  }

  static void p18_could_without_a_plan() {
    ClashDay x = Due.of(NO_PLAN);
    for (int w = 0; w < 8; w++) is("what " + w, x.could(0, w), -2);
  }

  static void p18_could_without_one_that_waits() {
    Edge.sameWithDay("planned", x -> x.could(0, 0), -3);
    Edge.sameWithDay("candidate 4 of 4", x -> x.could(4, 0), -3);
    for (int c : new int[] {-1, 6, 32, MIN, MAX}) Edge.sameInAll("candidate " + c, x -> x.could(c, 0), -3);
  }

  static void p18_could_without_a_day() {
    for (int w = -1; w < 9; w++) is("what " + w, Edge.noDay().could(0, w), -3);
  }

  static void p18_could_nothing_changes() {
    for (int w = 0; w < 8; w++) {
      int what = w;
      Edge.quiet("what " + w, x -> x.could(2, what));
    }
  }

  // ---- promise 19: orders

  static void p19_orders_from_0_to_120() {
    is("none", Due.of(NO_PLAN).orders(0), 0);
    is("one paper", Due.of(ROW).orders(0), 1);
    is("two", Due.of("day 1 20;paper 0 1;paper 0 1;candidate 3 0 0").orders(0), 2);
    is("three", Due.of(THREE).orders(2), 6);
    is("five", Due.of("day 1 20" + ";paper 0 1".repeat(5) + ";candidate 31 0 0").orders(0), 120);
  }

  static void p19_orders_one_of_two() {
    // neither half of the second day has five slots
    is("one", Due.of("day 1 20;paper 0 5;paper 15 5;candidate 3 0 0;taken 24 1;taken 29 1").orders(0), 1);
  }

  static void p19_orders_fall_as_seats_are_taken() {
    ClashDay x = Due.of("day 1 20;paper 0 5;paper 15 5;candidate 3 0 0");
    is("both", x.orders(0), 2);
    x.take(24, 1);
    is("both", x.orders(0), 2);
    x.take(26, 1);
    is("one", x.orders(0), 1);
    x.take(17, 1);
    is("none", x.orders(0), 0);
  }

  static void p19_orders_without_one_that_waits() {
    Edge.sameWithDay("planned", x -> x.orders(0), -1);
    Edge.sameWithDay("candidate 4 of 4", x -> x.orders(4), -1);
    for (int c : new int[] {-1, 6, 32, MIN, MAX}) Edge.sameInAll("candidate " + c, x -> x.orders(c), -1);
    Edge.same(Edge::noDay, "no day", x -> x.orders(0), -1);
  }

  static void p19_orders_nothing_changes() {
    Edge.quiet("orders", x -> x.orders(2));
  }

  // ---- promise 20: clash

  static void p20_clash_one_paper_and_all_five() {
    ClashDay x = Due.of(NO_PLAN);
    is("how many", x.clash(0, 0), 1);
    is("the set", x.clash(0, 1), 1);
    // nine slots on the second day, and five papers of two
    x = Due.of("day 1 1" + ";paper 0 2".repeat(5) + ";candidate 31 0 0;candidate 15 0 0;taken 29 1");
    is("how many", x.clash(0, 0), 5);
    is("the set", x.clash(0, 1), 31);
    is("four of them can be", x.clash(1, 0), -2);
  }

  static void p20_clash_of_several_sets_the_least() {
    ClashDay x = Due.of("day 1 1" + ";paper 0 6".repeat(5) + ";candidate 31 0 0;candidate 30 0 0;candidate 21 0 0");
    is("0 and 1", x.clash(0, 1), 3);
    is("1 and 2", x.clash(1, 1), 6);
    is("0 and 2", x.clash(2, 1), 5);
    for (int c = 0; c < 3; c++) is("two", x.clash(c, 0), 2);
  }

  static void p20_clash_the_fewest_ahead_of_the_least() {
    // 0 and 1 clash (12 slots), but paper 4 alone can't be
    ClashDay x = Due.of("day 1 1;paper 0 3;paper 0 3;paper 0 1;paper 0 1;paper 9 6;candidate 19 100 0");
    is("how many", x.clash(0, 0), 1);
    is("the set", x.clash(0, 1), 16);
  }

  static void p20_clash_the_first_and_the_last_paper_alone() {
    ClashDay x = Due.of("day 9 20;paper 9 6;paper 0 1;paper 0 1;paper 0 1;paper 9 6;candidate 31 100 0;candidate 30 100 0");
    is("how many", x.clash(0, 0), 1);
    is("paper 0", x.clash(0, 1), 1);
    is("how many", x.clash(1, 0), 1);
    is("paper 4", x.clash(1, 1), 16);
  }

  static void p20_clash_there_is_a_plan() {
    ClashDay x = Due.of(ROW);
    is("what 0", x.clash(0, 0), -2);
    is("what 1", x.clash(0, 1), -2);
  }

  static void p20_clash_without_these() {
    for (int w : new int[] {2, -1, MIN, MAX}) {
      Edge.sameInAll("what " + w, x -> x.clash(1, w), -1);
      is("what " + w + ", no PLAN", Due.of(NO_PLAN).clash(0, w), -1);
    }
    Edge.sameWithDay("planned", x -> x.clash(0, 0), -1);
    Edge.sameWithDay("candidate 4 of 4", x -> x.clash(4, 0), -1);
    for (int c : new int[] {-1, 6, 32, MIN, MAX}) Edge.sameInAll("candidate " + c, x -> x.clash(c, 0), -1);
    Edge.same(Edge::noDay, "no day", x -> x.clash(0, 0), -1);
  }

  static void p20_clash_nothing_changes() {
    Edge.same(() -> Due.of(NO_PLAN), "clash", x -> x.clash(0, 1), 1);
    Edge.quiet("clash", x -> x.clash(2, 0));
  }

  // ---- promise 21: line

  private static void line(ClashDay x, int who, String due) {
    for (int s = 0; s < 30; s++) is("candidate " + who + ", slot " + s, x.line(who, s), due.charAt(s));
  }

  static void p21_line_each_sign() {
    ClashDay x = planned(ALL);
    line(x, 0, "A.............................");
    line(x, 5, "A..BB.CCCkDDDD.EEEEE..........");
  }

  static void p21_line_of_both_days() {
    line(planned(ALL), 4, "...............kkkkkEEEEEEEEEE");
    line(planned("day 1 1;paper 0 5;paper 9 5;candidate 3 0 0"), 0, "kkkkkkkkkkkkkkkkkkkkAAAAABBBBB");
  }

  static void p21_line_kept_from_start_on_until_it_begins() {
    line(planned("day 1 20;paper 5 2;candidate 1 0 0;taken 5 1;taken 6 1"), 0, ".....kkAA.....................");
    line(planned("day 1 20;paper 5 2;candidate 1 0 0;taken 4 1;taken 7 1"), 0, ".....AA.......................");
  }

  static void p21_line_not_kept_where_one_sits_another_paper() {
    line(planned("day 1 20;paper 0 4;paper 2 3;candidate 3 0 0"), 0, "AAAABBB.......................");
    line(planned("day 1 20;paper 0 4;paper 2 3;candidate 3 0 2"), 0, "AAAAkkBBB.....................");
  }

  static void p21_line_not_kept_for_a_paper_of_others() {
    ClashDay x = planned("day 9 20;paper 0 1;paper 5 1;candidate 1 0 0;candidate 2 0 0;taken 5 9");
    line(x, 0, "A.............................");
    line(x, 1, ".....kB.......................");
  }

  static void p21_line_without_such_a_slot() {
    for (int s : new int[] {-1, 30, 32, MIN, MAX}) Edge.sameInAll("slot " + s, x -> x.line(0, s), -1);
  }

  static void p21_line_without_one_that_is_planned() {
    Edge.sameWithDay("one that waits", x -> x.line(1, 0), -1);
    Edge.sameWithDay("candidate 4 of 4", x -> x.line(4, 0), -1);
    for (int c : new int[] {-1, 6, 32, MIN, MAX}) Edge.sameInAll("candidate " + c, x -> x.line(c, 0), -1);
    Edge.same(Edge::noDay, "no day", x -> x.line(0, 0), -1);
  }

  // ---- promise 22: spelt

  private static void spelt(ClashDay x, int who, String due) {
    is("how long", x.spelt(who, -1), due.length());
    for (int i = 0; i < due.length(); i++) is("place " + i, x.spelt(who, i), due.charAt(i));
    is("one behind the last", x.spelt(who, due.length()), -2);
  }

  static void p22_spelt_runs_of_one_have_no_digit() {
    spelt(planned(ALL), 5, "A2.2B.3Ck4D.5E10.");
  }

  static void p22_spelt_runs_of_2_of_9_of_10_and_more() {
    spelt(planned("day 1 20;paper 0 1;candidate 1 0 0"), 0, "A29.");
    spelt(planned("day 1 20;paper 1 2;candidate 1 0 0"), 0, ".2A27.");
    spelt(planned("day 1 20;paper 2 1;candidate 1 0 0"), 0, "2.A27.");
    spelt(planned("day 1 20;paper 9 1;candidate 1 0 0"), 0, "9.A20.");
    spelt(planned("day 1 20;paper 10 1;candidate 1 0 0"), 0, "10.A19.");
    spelt(planned("day 1 20;paper 11 1;candidate 1 0 0"), 0, "11.A18.");
    spelt(planned("day 1 20;paper 10 5;candidate 1 100 0"), 0, "10.10A10.");
  }

  static void p22_spelt_up_to_the_last_slot() {
    spelt(planned(ALL), 4, "15.5k10E");
    spelt(planned("day 1 1;paper 0 5;paper 9 5;candidate 3 0 0"), 0, "20k5A5B");
  }

  static void p22_spelt_place_far_behind() {
    Edge.sameWithDay("place 30", x -> x.spelt(0, 30), -2);
    Edge.sameWithDay("place 31", x -> x.spelt(0, 31), -2);
    Edge.sameWithDay("place MAX", x -> x.spelt(0, MAX), -2);
  }

  static void p22_spelt_place_below_none() {
    Edge.sameInAll("place -2", x -> x.spelt(0, -2), -1);
    Edge.sameInAll("place MIN", x -> x.spelt(0, MIN), -1);
  }

  static void p22_spelt_without_one_that_is_planned() {
    for (int place : new int[] {-2, -1, 0, 30}) {
      Edge.sameWithDay("one that waits", x -> x.spelt(1, place), -1);
      Edge.sameWithDay("candidate 4 of 4", x -> x.spelt(4, place), -1);
    }
    for (int c : new int[] {-1, 6, 32, MIN, MAX}) Edge.sameInAll("candidate " + c, x -> x.spelt(c, -1), -1);
    Edge.same(Edge::noDay, "no day", x -> x.spelt(0, -1), -1);
  }

  // ---- promise 23: first (no text is the begin of another one: each stands for 30 signs)

  private static void first(String day, int which, int common) {
    ClashDay x = planned(day);
    is(day, x.first(0, 1, 0), which);
    is(day + ", turned", x.first(1, 0, 0), which);
    is(day + ", in common", x.first(0, 1, 1), common);
    is(day + ", in common, turned", x.first(1, 0, 1), common);
  }

  static void p23_first_as_signs_go() {
    // A29. and .A28.
    first("day 9 20;paper 0 1;paper 1 1;candidate 1 0 0;candidate 2 0 0", 1, 0);
    // 9.A20. and 10.A19.
    first("day 9 20;paper 9 1;paper 10 1;candidate 1 0 0;candidate 2 0 0", 1, 0);
    // A29. and 2B28.
    first("day 9 20;paper 0 1;paper 0 2;candidate 1 0 0;candidate 2 0 0", 1, 0);
    // A29. and kA28.
    first("day 1 20;paper 0 1;candidate 1 0 0;candidate 1 0 0", 0, 0);
    // 3A27. and 3k3A24.
    first("day 1 20;paper 0 3;candidate 1 0 0;candidate 1 0 0", 0, 1);
    // A29. and B29.
    first("day 9 20;paper 0 1;paper 0 1;candidate 2 0 0;candidate 1 0 0", 1, 0);
  }

  static void p23_first_unlike_in_the_last_place_that_can_be() {
    // 15.5k10A and 15.5A10.
    first("day 1 20;paper 15 5;candidate 1 100 0;candidate 1 0 0", 1, 4);
    // 15.5A10. and 15.4A11.
    first("day 9 20;paper 15 5;paper 15 4;candidate 1 0 0;candidate 2 0 0", 1, 3);
  }

  static void p23_first_both_spelt_alike() {
    first("day 9 20;paper 0 3;candidate 1 0 0;candidate 1 0 0", -2, 5);
    first("day 9 20;paper 0 1;candidate 1 0 0;candidate 1 0 0", -2, 4);
  }

  static void p23_first_without_these() {
    for (int w : new int[] {2, -1, MIN, MAX}) Edge.sameInAll("what " + w, x -> x.first(0, 3, w), -1);
    Edge.sameWithDay("one alone", x -> x.first(0, 0, 0), -1);
    Edge.sameWithDay("one that waits", x -> x.first(0, 1, 0), -1);
    Edge.sameWithDay("one that waits", x -> x.first(1, 0, 0), -1);
    Edge.sameWithDay("candidate 4 of 4", x -> x.first(0, 4, 0), -1);
    for (int c : new int[] {-1, 6, 32, MIN, MAX}) {
      Edge.sameInAll("candidate " + c, x -> x.first(c, 0, 0), -1);
      Edge.sameInAll("candidate " + c, x -> x.first(0, c, 1), -1);
    }
    Edge.same(Edge::noDay, "no day", x -> x.first(0, 1, 0), -1);
  }

  // ---- promise 24: watchers

  /** 0, 1 and 2 are kept in slots 0 and 1, candidate 3 in slot 1; all sit in slot 2. */
  private static final String WATCHED = "day 4 20;paper 0 1;paper 1 1;candidate 1 0 0;candidate 1 0 0;candidate 1 0 0;"
      + "candidate 2 0 0;taken 0 4;taken 1 4";

  static void p24_watchers_for_1_to_6() {
    ClashDay x = planned(SIX);
    int[] many = {5, 3, 2, 2, 1, 1};
    for (int n = 1; n <= 6; n++) {
      is("for " + n, x.watchers(n, 0), many[n - 1]);
      is("for " + n + ", the slot", x.watchers(n, 1), 0);
    }
  }

  static void p24_watchers_the_first_slot_in_which_so_many_are_needed() {
    ClashDay x = planned(WATCHED);
    int[][] due = {{4, 1}, {2, 0}, {2, 1}, {1, 0}, {1, 0}, {1, 0}};
    for (int n = 1; n <= 6; n++)
      for (int w = 0; w < 2; w++) is("for " + n + ", what " + w, x.watchers(n, w), due[n - 1][w]);
  }

  static void p24_watchers_on_the_second_day() {
    // kept are 1 in slots 15 to 23, 0 in 20 and 21
    ClashDay x = planned("day 1 5;paper 15 5;paper 15 2;candidate 3 0 0;candidate 2 0 0;taken 20 1;taken 21 1");
    is("two", x.watchers(1, 0), 2);
    is("slot 20", x.watchers(1, 1), 20);
    is("one", x.watchers(2, 0), 1);
    is("slot 15", x.watchers(2, 1), 15);
  }

  static void p24_watchers_0_of_0() {
    for (int n = 1; n <= 6; n++) {
      is("nobody", Due.of("day 1 1").watchers(n, 0), 0);
      is("nobody", Due.of("day 1 1").watchers(n, 1), 0);
      is("nobody is planned", Due.of(ROW).watchers(n, 0), 0);
      is("nobody is kept", planned("day 1 20;paper 9 1;candidate 1 0 0").watchers(n, 1), 0);
    }
  }

  static void p24_watchers_without_these() {
    for (int n : new int[] {0, 7, -1, MIN, MAX}) Edge.sameInAll("for " + n, x -> x.watchers(n, 0), -1);
    for (int w : new int[] {2, -1, MIN, MAX}) Edge.sameInAll("what " + w, x -> x.watchers(1, w), -1);
  }

  static void p24_watchers_without_a_day() {
    for (int n = 1; n <= 6; n++) for (int w = 0; w < 2; w++) is("watchers", Edge.noDay().watchers(n, w), -1);
  }

  // ---- promise 25: chain

  static void p25_chain_for_1_to_6() {
    ClashDay x = planned(WATCHED);
    int[][] due = {{0, 1, 2, 3}, {0, 0, 1, 1}, {0, 0, 0, 1}, {0, 0, 0, 0}, {0, 0, 0, 0}, {0, 0, 0, 0}};
    for (int n = 1; n <= 6; n++)
      for (int c = 0; c < 4; c++) is("for " + n + ", candidate " + c, x.chain(n, c, 1), due[n - 1][c]);
  }

  static void p25_chain_six_candidates() {
    ClashDay x = planned("day 6 20;paper 0 1" + ";candidate 1 0 0".repeat(6) + ";taken 0 6");
    for (int n = 1; n <= 6; n++) for (int c = 0; c < 6; c++) is("for " + n, x.chain(n, c, 0), c / n);
  }

  static void p25_chain_not_kept_in_it() {
    ClashDay x = planned(WATCHED);
    is("candidate 3 in slot 0", x.chain(1, 3, 0), -2);
    for (int c = 0; c < 4; c++) {
      is("they sit", x.chain(1, c, 2), -2);
      is("behind", x.chain(1, c, 3), -2);
      is("the last slot", x.chain(1, c, 29), -2);
    }
  }

  static void p25_chain_who_was_kept_keeps_over_night() {
    // kept are 0 in slots 14 to 19, 1 in 15 to 21
    ClashDay x = planned("day 1 1;paper 14 2;paper 15 2;candidate 1 0 0;candidate 2 0 0");
    is("slot 14", x.chain(1, 0, 14), 0);
    is("slot 19", x.chain(1, 0, 19), 0);
    for (int s = 15; s <= 21; s++) is("slot " + s, x.chain(1, 1, s), 1);
    is("slot 22", x.chain(1, 1, 22), -2);
  }

  static void p25_chain_who_was_not_kept_ahead_has_the_least() {
    // 1 is kept in slots 0, 1 and 3, and sits in 2
    ClashDay x = planned("day 1 20;paper 0 1;paper 1 1;candidate 1 0 0;candidate 3 0 1;taken 0 1");
    is("candidate 0", x.chain(1, 0, 0), 0);
    is("slot 0", x.chain(1, 1, 0), 1);
    is("slot 1", x.chain(1, 1, 1), 1);
    is("slot 2", x.chain(1, 1, 2), -2);
    is("slot 3", x.chain(1, 1, 3), 0);
  }

  static void p25_chain_who_keeps_comes_ahead_of_lesser_numbers() {
    // kept are 1 in slots 0 to 2 and 0 in slot 2: it is 1 that keeps watcher 0
    ClashDay x = planned("day 2 20;paper 2 1;paper 0 1;candidate 1 0 0;candidate 2 0 0;taken 0 2;taken 1 2;taken 2 2");
    is("candidate 1", x.chain(1, 1, 1), 0);
    is("candidate 1", x.chain(1, 1, 2), 0);
    is("candidate 0", x.chain(1, 0, 2), 1);
  }

  static void p25_chain_without_these() {
    for (int n : new int[] {0, 7, -1, MIN, MAX}) Edge.sameInAll("for " + n, x -> x.chain(n, 0, 2), -1);
    for (int s : new int[] {-1, 30, 32, MIN, MAX}) Edge.sameInAll("slot " + s, x -> x.chain(1, 0, s), -1);
    for (int c : new int[] {-1, 6, 32, MIN, MAX}) Edge.sameInAll("candidate " + c, x -> x.chain(1, c, 2), -1);
    Edge.sameWithDay("one that waits", x -> x.chain(1, 1, 2), -1);
    Edge.sameWithDay("candidate 4 of 4", x -> x.chain(1, 4, 2), -1);
    Edge.same(Edge::noDay, "no day", x -> x.chain(1, 0, 0), -1);
  }

  // ---- promise 26: apart

  static void p26_apart_up_to_the_slot_ahead_of_its_begin() {
    ClashDay x = planned(ROW);
    is("slots 3 to 5", x.apart(2, 0), 3);
    is("the other sits all along", x.apart(1, 0), 0);
    is("the other sits all along", x.apart(2, 1), 0);
    is("the first one has begun", x.apart(0, 2), 0);
  }

  static void p26_apart_begun_in_the_same_slot() {
    ClashDay x = planned("day 9 20;paper 0 3;candidate 1 0 0;candidate 1 0 0");
    is("apart", x.apart(0, 1), 0);
    is("apart", x.apart(1, 0), 0);
  }

  static void p26_apart_no_paper_both_sit() {
    ClashDay x = planned("day 9 20;paper 0 1;paper 9 1;candidate 1 0 0;candidate 2 0 0");
    is("apart", x.apart(1, 0), 0);
    is("apart", x.apart(0, 1), 0);
  }

  static void p26_apart_over_night() {
    // 15 to 17, and 20 to 22
    ClashDay x = planned("day 1 20;paper 15 3;candidate 1 0 0;candidate 1 0 0");
    is("slots 18 and 19", x.apart(1, 0), 2);
  }

  static void p26_apart_where_the_first_one_sits_another_paper() {
    // 1 sits A in slots 0 to 3, 0 sits B in slot 4 and A from slot 7 on
    ClashDay x = Due.of("day 1 20;paper 0 4;paper 4 1;candidate 3 0 2;candidate 1 0 0;taken 6 1");
    x.plan(1);
    x.plan(0);
    is("B", x.begins(0, 1), 4);
    is("A", x.begins(0, 0), 7);
    is("slots 5 and 6", x.apart(0, 1), 2);
    is("the other way", x.apart(1, 0), 0);
  }

  static void p26_apart_without_these() {
    Edge.sameWithDay("one alone", x -> x.apart(0, 0), -1);
    Edge.sameWithDay("one that waits", x -> x.apart(0, 1), -1);
    Edge.sameWithDay("one that waits", x -> x.apart(1, 0), -1);
    Edge.sameWithDay("candidate 4 of 4", x -> x.apart(0, 4), -1);
    for (int c : new int[] {-1, 6, 32, MIN, MAX}) {
      Edge.sameInAll("candidate " + c, x -> x.apart(c, 0), -1);
      Edge.sameInAll("candidate " + c, x -> x.apart(0, c), -1);
    }
    Edge.same(Edge::noDay, "no day", x -> x.apart(0, 1), -1);
  }

  // ---- promise 27: best

  private static void best(ClashDay x, int... due) {
    for (int w = 0; w < 6; w++) is("what " + w, x.best(w), due[w]);
  }

  static void p27_best_of_none_that_wait() {
    best(Due.of("day 1 1"), 0, 0, -1, -1, -1, -1);
    best(planned(SIX), 0, 0, -1, -1, -1, -1);
  }

  static void p27_best_of_one_to_six_that_wait() {
    ClashDay x = planned(SIX);
    x.drop(5);
    best(x, 1, 5, 5, -1, -1, -1);
    x.drop(4);
    best(x, 2, 9, 4, 5, -1, -1);
    x.drop(3);
    best(x, 3, 12, 3, 4, 5, -1);
    x.drop(2);
    best(x, 4, 14, 2, 3, 4, 5);
    x.drop(1);
    best(x, 4, 10, 1, 2, 3, 4);
    x.drop(0);
    best(x, 4, 6, 0, 1, 2, 3);
  }

  static void p27_best_of_the_four_of_least_numbers_alone() {
    // candidate 4 would be kept in no slot, but is the fifth that waits
    best(Due.of("day 1 20;paper 0 1;paper 15 1" + ";candidate 1 0 0".repeat(4) + ";candidate 2 0 0"), 4, 6, 0, 1, 2, 3);
  }

  static void p27_best_none_of_them_can_be() {
    best(Due.of("day 1 20;paper 9 6;candidate 1 100 0;candidate 1 100 0"), 0, 0, 0, 1, -1, -1);
  }

  static void p27_best_most_planned_ahead_of_fewest_kept() {
    // candidate 0 needs slots 8 to 19: planned behind the other one they can't be
    best(Due.of("day 1 20;paper 8 6;paper 8 1;candidate 1 100 0;candidate 2 0 0"), 2, 12, 0, 1, -1, -1);
    best(Due.of("day 1 20;paper 8 6;paper 8 1;candidate 2 0 0;candidate 1 100 0"), 2, 12, 1, 0, -1, -1);
  }

  static void p27_best_fewest_kept_ahead_of_the_first() {
    best(Due.of("day 1 20;paper 0 6;paper 0 1;candidate 1 0 0;candidate 2 0 0"), 2, 1, 1, 0, -1, -1);
  }

  static void p27_best_kept_of_these_alone() {
    ClashDay x = Due.of(ROW);
    x.plan(0);
    x.plan(1);
    best(x, 1, 6, 2, -1, -1, -1);
  }

  static void p27_best_for_others_or_without_a_day() {
    for (int w : new int[] {6, -1, MIN, MAX}) Edge.sameInAll("what " + w, x -> x.best(w), -2);
    for (int w = 0; w < 6; w++) is("no day", Edge.noDay().best(w), -2);
  }

  static void p27_best_nothing_changes() {
    Edge.quiet("best", x -> x.best(0));
    Edge.quiet("best", x -> x.best(2));
  }

  // ---- promise 28: harm

  private static void harm(String day, int n, int which, int many) {
    ClashDay x = Due.of(day);
    is(day + ", which for " + n, x.harm(n, 0), which);
    is(day + ", how many for " + n, x.harm(n, 1), many);
  }

  static void p28_harm_for_1_to_9() {
    // 12 slots: from slot 8 on they can be, from 9 on they can't
    for (int n = 1; n <= 9; n++) harm("day 1 20;paper 0 6;candidate 1 100 0", n, 0, n < 9 ? 0 : 1);
    harm("day 1 20;paper 7 6;candidate 1 100 0", 1, 0, 0);
    harm("day 1 20;paper 8 6;candidate 1 100 0", 1, 0, 1);
  }

  static void p28_harm_of_several_the_least() {
    harm("day 1 20" + ";paper 0 1".repeat(5), 1, 0, 0);
    harm("day 1 20;paper 0 1;paper 8 6;paper 8 6;candidate 2 100 0;candidate 4 100 0", 1, 1, 1);
  }

  static void p28_harm_most() {
    harm("day 9 20;paper 8 6;paper 8 6;candidate 1 100 0;candidate 2 100 0;candidate 2 100 0", 1, 1, 2);
  }

  static void p28_harm_a_paper_that_cant_be_later_is_none_such() {
    harm("day 1 20;paper 15 1;paper 0 1", 9, 1, 0);
    harm("day 1 20;paper 15 1;paper 14 1", 9, 1, 0);
  }

  static void p28_harm_there_is_no_such_paper() {
    harm("day 1 20", 1, -2, -2);
    harm("day 1 20" + ";paper 15 1".repeat(5) + ";candidate 1 0 0", 9, -2, -2);
  }

  static void p28_harm_15_at_most() {
    // by 9 it would be in slot 16, and the five slots not on the first day; taken are all of the second one
    harm("day 1 20;paper 7 5;candidate 1 0 0;taken 24 1;taken 25 1", 9, 0, 0);
    harm("day 1 20;paper 14 5;candidate 1 0 0;taken 24 1;taken 25 1", 9, 0, 0);
    harm("day 1 20;paper 14 6;candidate 1 0 0;taken 24 1;taken 25 1", 1, 0, 1);
  }

  static void p28_harm_of_all_candidates() {
    // candidate 0 has no PLAN at all
    harm("day 1 20;paper 9 6;paper 0 1;candidate 1 100 0;candidate 2 0 0", 1, 0, 1);
    harm("day 1 20;paper 15 6;paper 0 1;candidate 1 100 0;candidate 2 0 0", 1, 1, 1);
  }

  static void p28_harm_who_is_planned_and_sits_it_would_wait() {
    ClashDay x = planned("day 9 20;paper 0 1;paper 8 6;candidate 1 0 0;candidate 2 100 0");
    is("which", x.harm(1, 0), 1);
    is("how many", x.harm(1, 1), 1);
  }

  static void p28_harm_who_is_planned_and_does_not_sit_it_stays() {
    // candidate 0 could not be planned once more, but stays as they are
    ClashDay x = planned("day 9 20;paper 8 6;paper 0 1;candidate 1 100 0;candidate 2 0 0");
    x.take(8, 9);
    is("by paper 0", x.harm(1, 0), 0);
    is("one", x.harm(1, 1), 1);
    x.drop(0);
    x.delay(1, 9);
    is("by each paper one: the least", x.harm(1, 0), 0);
    is("one", x.harm(1, 1), 1);
  }

  static void p28_harm_without_these() {
    for (int n : new int[] {0, 10, -1, MIN, MAX}) Edge.sameInAll("for " + n, x -> x.harm(n, 0), -1);
    for (int w : new int[] {2, -1, MIN, MAX}) {
      Edge.sameInAll("what " + w, x -> x.harm(1, w), -1);
      is("no papers, what " + w, Due.of("day 1 1").harm(1, w), -1);
    }
  }

  static void p28_harm_without_a_day() {
    for (int n = 1; n <= 9; n++) for (int w = 0; w < 2; w++) is("harm", Edge.noDay().harm(n, w), -1);
  }

  static void p28_harm_nothing_changes() {
    Edge.quiet("harm", x -> x.harm(9, 0));
    Edge.quiet("harm", x -> x.harm(1, 1));
  }

  // ---- promise 29: ahead

  static void p29_ahead_0_is_now() {
    ClashDay x = Due.of(ROW);
    for (int w = 0; w < 3; w++) is("at first, what " + w, x.ahead(0, w), 0);
    for (int i = 0; i < 3; i++) x.turn();
    int[] due = {3, 9, 511};
    for (int w = 0; w < 3; w++) is("in the end, what " + w, x.ahead(0, w), due[w]);
  }

  static void p29_ahead_20_is_the_last() {
    ClashDay x = Due.of(ROW);
    Due.rule(x, "plan 1 if turn=19");
    x.force(0);
    is("19 turns", x.ahead(19, 0), 0);
    is("20 turns", x.ahead(20, 0), 1);
    is("20 turns", x.ahead(20, 2), 7);
  }

  static void p29_ahead_slots_as_bits() {
    StringBuilder all = new StringBuilder("day 2 20;paper 0 1;candidate 1 0 0");
    for (int s = 0; s < 30; s++) all.append(";taken").append(s).append(" 2");
    is("all of them", Due.of(all.toString()).ahead(0, 2), (1 << 30) - 1);
    is("the last", Due.of("day 2 20;taken 29 2").ahead(0, 2), 1 << 29);
    is("more than the seats", Due.of("day 2 20;taken 0 9").ahead(0, 2), 1);
    is("one is left", Due.of("day 2 20;taken 0 1;taken 29 1").ahead(0, 2), 0);
  }

  static void p29_ahead_without_these() {
    for (int n : new int[] {-1, 21, MIN, MAX}) Edge.sameInAll(n + " turns", x -> x.ahead(n, 0), -1);
    for (int w : new int[] {3, -1, MIN, MAX}) Edge.sameInAll("what " + w, x -> x.ahead(0, w), -1);
  }

  static void p29_ahead_without_a_day() {
    for (int n = 0; n <= 20; n++) for (int w = 0; w < 3; w++) is("ahead", Edge.noDay().ahead(n, w), -1);
  }

  static void p29_ahead_nothing_changes() {
    Edge.quiet("ahead", x -> x.ahead(20, 0));
    Edge.quiet("ahead", x -> x.ahead(1, 2));
  }

  // ---- promise 30: when

  private static void when(String rule, int turns, int due) {
    ClashDay x = Due.of(ROW);
    Due.rule(x, "plan 0");
    Due.rule(x, rule);
    x.force(0);
    for (int i = 0; i < turns; i++) x.turn();
    x.force(1);
    is(rule + " from turn " + turns, x.when(0), due);
  }

  static void p30_when_this_turn_is_the_first() {
    when("plan 1 if turn=0", 0, 0);
    when("plan 1 if turn=0", 1, -2);
    when("plan 1 if turn=7", 7, 7);
    when("plan 1 if turn=7", 8, -2);
  }

  static void p30_when_of_20_turns() {
    when("plan 1 if turn=19", 0, 19);
    when("plan 1 if turn=20", 0, -2);
    when("plan 1 if turn=20", 1, 20);
    when("plan 1 if turn=21", 1, -2);
    when("plan 1 if turn=49", 30, 49);
    when("plan 1 if turn=50", 30, -2);
  }

  static void p30_when_one_behind_the_other() {
    ClashDay x = Due.of(SIX);
    for (int c = 0; c < 6; c++) is("when", x.when(c), c);
    x.turn();
    for (int c = 1; c < 6; c++) is("when", x.when(c), c);
  }

  static void p30_when_in_none_of_these() {
    is("no PLAN", Due.of(NO_PLAN).when(0), -2);
    when("plan 0", 0, -2);
  }

  static void p30_when_without_one_that_waits() {
    Edge.sameWithDay("planned", x -> x.when(0), -1);
    Edge.sameWithDay("candidate 4 of 4", x -> x.when(4), -1);
    for (int c : new int[] {-1, -2, 6, 32, MIN, MAX}) Edge.sameInAll("candidate " + c, x -> x.when(c), -1);
    Edge.same(Edge::noDay, "no day", x -> x.when(0), -1);
  }

  static void p30_when_nothing_changes() {
    Edge.quiet("when", x -> x.when(2));
  }

  // ---- promise 31: extras

  private static final String ONE = "day 1 20;paper 0 6;candidate 1 50 0";

  static void p31_extras_without_notes() {
    ClashDay x = Due.of(ONE);
    is("how many", x.extras(0, 0), 6);
    is("the least", x.extras(0, 1), 0);
  }

  /** By 0, 20, 40, 60, 80, 100 they sit 6, 8, 9, 10, 11, 12 slots. */
  static void p31_extras_from_each_on() {
    int[][] due = {{5, 6, 0}, {6, 5, 20}, {7, 5, 20}, {8, 4, 40}, {9, 3, 60}, {10, 2, 80}, {11, 1, 100}, {12, 0, -2}};
    for (int[] d : due) {
      ClashDay x = Due.of(ONE);
      x.note(0, d[0], 0);
      is("slot " + d[0] + ", how many", x.extras(0, 0), d[1]);
      is("slot " + d[0] + ", the least", x.extras(0, 1), d[2]);
    }
  }

  static void p31_extras_0_alone() {
    ClashDay x = Due.of(ONE);
    x.note(0, 6, 1);
    is("how many", x.extras(0, 0), 1);
    is("the least", x.extras(0, 1), 0);
  }

  static void p31_extras_all_notes_must_be_so() {
    ClashDay x = Due.of(ONE);
    x.note(0, 8, 0);
    x.note(9, 9, 1);
    is("how many", x.extras(0, 0), 1);
    is("the least", x.extras(0, 1), 40);
    x.note(9, 29, 0);
    is("how many", x.extras(0, 0), 0);
    is("the least", x.extras(0, 1), -2);
  }

  static void p31_extras_ten_notes_and_the_last_counts() {
    ClashDay x = Due.of(ONE);
    for (int i = 0; i < 9; i++) x.note(i, 29, 1);
    is("how many", x.extras(0, 0), 6);
    x.note(9, 11, 0);
    is("how many", x.extras(0, 0), 1);
  }

  static void p31_extras_by_the_rule_in_force_as_the_text_told_it() {
    ClashDay x = Due.of(ONE);
    Due.rule(x, "plan 0");
    x.note(0, 11, 0);
    x.take(0, 1);
    x.delay(0, 9);
    is("what was done by hand is not asked", x.extras(0, 1), 100);
    x.force(0);
    is("by rule 0 nobody is planned", x.extras(0, 0), 0);
  }

  static void p31_extras_of_the_last_candidate() {
    ClashDay x = Due.of(SIX);
    x.note(5, 6, 0);
    is("candidate 5 sits two slots", x.extras(5, 0), 5);
    is("the least", x.extras(5, 1), 20);
  }

  static void p31_extras_without_these() {
    Edge.sameWithDay("candidate 4 of 4", x -> x.extras(4, 0), -1);
    for (int c : new int[] {-1, 6, 32, MIN, MAX}) Edge.sameInAll("candidate " + c, x -> x.extras(c, 0), -1);
    for (int w : new int[] {2, -1, MIN, MAX}) Edge.sameInAll("what " + w, x -> x.extras(0, w), -1);
    for (int w = 0; w < 2; w++) is("no day", Edge.noDay().extras(0, w), -1);
  }

  static void p31_extras_nothing_changes() {
    Edge.quiet("one that waits", x -> x.extras(1, 0));
    Edge.quiet("one that is planned", x -> x.extras(0, 1));
  }

  // ---- promise 32: resting

  static void p32_resting_each_alone_all_and_none() {
    String two = "day 1 20;paper 0 1;paper 0 1;candidate 3 0 2";
    is("no notes", Due.of(two).resting(0), 15);
    for (int rest = 0; rest <= 3; rest++) {
      ClashDay x = Due.of(two);
      x.note(0, 1 + rest, 0);
      is("REST " + rest, x.resting(0), 1 << rest);
      x.note(-1, 0, 0);
      x.note(0, 1 + rest, 1);
      is("not REST " + rest, x.resting(0), 15 - (1 << rest));
    }
    ClashDay x = Due.of(two);
    x.note(0, 5, 0);
    is("none", x.resting(0), 0);
  }

  static void p32_resting_of_one_that_is_planned_and_of_the_last() {
    ClashDay x = planned(SIX);
    x.note(5, 5, 0);
    is("candidate 5", x.resting(5), 15);
    x.note(4, 5, 0);
    is("candidate 5", x.resting(5), 0);
  }

  static void p32_resting_without_that_candidate() {
    Edge.sameWithDay("candidate 4 of 4", x -> x.resting(4), -1);
    for (int c : new int[] {-1, 6, 32, MIN, MAX}) Edge.sameInAll("candidate " + c, x -> x.resting(c), -1);
    Edge.same(Edge::noDay, "no day", x -> x.resting(0), -1);
  }

  static void p32_resting_nothing_changes() {
    Edge.quiet("resting", x -> x.resting(1));
  }

  // ---- promise 33: rests (there always is a two: what the first one has is not for the other one to change)

  private static void rests(String day, int... due) {
    ClashDay x = Due.of(day);
    for (int w = 0; w < 3; w++) is(day + ", what " + w, x.rests(0, 1, w), due[w]);
  }

  static void p33_rests_from_1_to_16() {
    rests(ROW, 1, 3, 3);
    // the first one has all slots that could be: the other one 0, whatever they ask for
    rests("day 1 20;paper 8 6;candidate 1 100 0;candidate 1 100 0", 4, 3, 0);
    rests("day 1 20;paper 9 6;candidate 1 100 0;candidate 1 100 0", 16, 0, 0);
  }

  static void p33_rests_one_that_cant_be_has_0_and_so_has_the_end_30() {
    // the last END is 30: REST 0 has 0, as one that can't be
    rests("day 2 20;paper 11 5;candidate 1 100 0;candidate 1 100 0", 1, 3, 3);
    // three papers overnight: END 26, 28, 30 with REST 0, 1, 2, so 4 each; with REST 3 they can't be
    rests("day 9 1;paper 0 2;paper 0 2;paper 0 2;paper 15 6;candidate 7 0 0;candidate 8 100 0", 12, 0, 0);
  }

  static void p33_rests_0_for_an_end_of_30_is_as_much_as_for_none() {
    // with REST 0 the END is 30, with more they can't be
    rests("day 1 1;paper 0 5;paper 0 5;candidate 3 0 0;candidate 3 0 0", 16, 0, 0);
  }

  static void p33_rests_none_at_all_is_best() {
    // four papers: a slot of REST costs three and gains two
    rests("day 9 20" + ";paper 0 1".repeat(4) + ";candidate 15 0 3;candidate 15 0 3", 1, 0, 0);
    rests("day 9 20" + ";paper 0 1".repeat(4) + ";candidate 15 0 3;candidate 1 0 0", 1, 0, 3);
    rests("day 9 20" + ";paper 0 1".repeat(4) + ";candidate 1 0 0;candidate 15 0 3", 1, 3, 0);
  }

  static void p33_rests_first_by_the_first_one() {
    // three papers: a slot of REST costs two and gains two
    rests("day 9 20;paper 0 1;paper 0 1;paper 0 1;candidate 7 0 3;candidate 7 0 3", 16, 0, 0);
    rests("day 9 20;paper 0 1;paper 0 1;paper 0 1;candidate 7 0 3;candidate 1 0 3", 4, 0, 3);
    rests("day 9 20;paper 0 1;paper 0 1;paper 0 1;candidate 1 0 3;candidate 7 0 3", 4, 3, 0);
  }

  static void p33_rests_the_first_one_is_planned_first() {
    String day = "day 1 20;paper 8 6;paper 8 1;candidate 1 100 0;candidate 2 0 0";
    rests(day, 1, 3, 3);
    // behind candidate 1 candidate 0 can't be
    ClashDay x = Due.of(day);
    is("how many", x.rests(1, 0, 0), 4);
    is("the first one", x.rests(1, 0, 1), 3);
    is("the second one", x.rests(1, 0, 2), 0);
  }

  static void p33_rests_without_these() {
    for (int w : new int[] {3, -1, MIN, MAX}) Edge.sameInAll("what " + w, x -> x.rests(1, 2, w), -1);
    Edge.sameWithDay("one alone", x -> x.rests(1, 1, 0), -1);
    Edge.sameWithDay("one that is planned", x -> x.rests(0, 1, 0), -1);
    Edge.sameWithDay("one that is planned", x -> x.rests(1, 0, 0), -1);
    Edge.sameWithDay("candidate 4 of 4", x -> x.rests(1, 4, 0), -1);
    for (int c : new int[] {-1, 6, 32, MIN, MAX}) {
      Edge.sameInAll("candidate " + c, x -> x.rests(c, 1, 0), -1);
      Edge.sameInAll("candidate " + c, x -> x.rests(1, c, 0), -1);
    }
    Edge.same(Edge::noDay, "no day", x -> x.rests(0, 1, 0), -1);
  }

  static void p33_rests_nothing_changes() {
    for (int w = 0; w < 3; w++) {
      int what = w;
      Edge.quiet("rests", x -> x.rests(1, 2, what));
    }
  }

  // ---- promise 34: pence

  static void p34_pence_0_to_9999() {
    ClashDay x = Due.of(ROW);
    x.plan(0);
    for (int much : new int[] {0, 1, 9998, 9999}) is("all", x.pence(much, 0), much);
    for (int much : new int[] {-1, 10000, MIN, MAX}) Edge.sameInAll("pence " + much, y -> y.pence(much, 0), -1);
  }

  static void p34_pence_of_one_slot_alone() {
    ClashDay x = planned("day 1 20;paper 0 1;candidate 1 0 0");
    for (int much : new int[] {0, 1, 9999}) is("all", x.pence(much, 0), much);
  }

  static void p34_pence_of_those_who_wait() {
    ClashDay x = Due.of(ROW);
    for (int c = 0; c < 3; c++) is("none are planned", x.pence(9999, c), 0);
    x.plan(2);
    is("waits", x.pence(9999, 0), 0);
    is("planned", x.pence(9999, 2), 9999);
  }

  static void p34_pence_what_is_left_to_the_least_first() {
    ClashDay x = planned(SIX);
    for (int much : new int[] {0, 1, 5, 6, 7, 11, 12, 9999})
      for (int c = 0; c < 6; c++) is(much + " to " + c, x.pence(much, c), much / 6 + (c < much % 6 ? 1 : 0));
  }

  static void p34_pence_what_is_left_to_those_that_lost_most() {
    // 5, 6 and 7 of 18
    ClashDay x = planned(THREE);
    int[][] due = {{1, 0, 0, 1}, {2, 0, 1, 1}, {3, 1, 1, 1}, {4, 1, 1, 2}, {5, 1, 2, 2}, {17, 5, 6, 6}, {18, 5, 6, 7},
        {19, 5, 6, 8}, {100, 28, 33, 39}};
    for (int[] d : due) for (int c = 0; c < 3; c++) is(d[0] + " to " + c, x.pence(d[0], c), d[c + 1]);
  }

  static void p34_pence_without_such_a_candidate() {
    Edge.sameWithDay("candidate 4 of 4", x -> x.pence(1, 4), -1);
    for (int c : new int[] {-1, 6, 32, MIN, MAX}) Edge.sameInAll("candidate " + c, x -> x.pence(1, c), -1);
    Edge.same(Edge::noDay, "no day", x -> x.pence(1, 0), -1);
  }

  static void p34_pence_nothing_changes() {
    Edge.quiet("pence", x -> x.pence(9999, 0));
  }

  // ---- promise 35: note

  static void p35_note_1_to_10_and_an_11th() {
    ClashDay x = Due.of("day 1 1");
    for (int i = 1; i <= 10; i++) {
      is("note", x.note(0, 0, 1), i);
      is("count 9", x.count(9), i);
    }
    is("an 11th", x.note(0, 0, 1), -2);
    Edge.same(Edge::full, "an 11th", y -> y.note(0, 0, 1), -2);
  }

  static void p35_note_turns_0_to_9() {
    for (int n = 0; n <= 9; n++) is("behind turn " + n, Due.of("day 1 1").note(n, 0, 0), 1);
    for (int n : new int[] {-2, 10, MIN, MAX}) Edge.sameInAll("behind turn " + n, x -> x.note(n, 0, 0), -2);
  }

  static void p35_note_slots_0_to_29() {
    for (int s = 0; s < 30; s++) is("slot " + s, Due.of("day 1 1").note(0, s, 0), 1);
    for (int s : new int[] {-1, 30, MIN, MAX}) Edge.sameInAll("slot " + s, x -> x.note(0, s, 0), -2);
  }

  static void p35_note_0_to_9_seats() {
    for (int n = 0; n <= 9; n++) is(n + " seats", Due.of("day 1 1").note(0, 0, n), 1);
    for (int n : new int[] {-1, 10, MIN, MAX}) Edge.sameInAll(n + " seats", x -> x.note(0, 0, n), -2);
  }

  static void p35_note_without_a_day() {
    Edge.same(Edge::noDay, "note", x -> x.note(0, 0, 0), -2);
  }

  static void p35_note_none_then() {
    for (int many : new int[] {0, 1, 10}) {
      ClashDay x = Due.of("day 1 1");
      for (int i = 0; i < many; i++) x.note(0, 0, 9);
      is("none then", x.note(-1, 0, 0), 0);
      is("count 9", x.count(9), 0);
      is("all rules are so", x.ruled(0), 1);
      is("the next", x.note(0, 0, 1), 1);
    }
  }

  static void p35_note_none_then_without_a_day() {
    Edge.same(Edge::noDay, "none then", x -> x.note(-1, 0, 0), 0);
  }

  static void p35_note_none_then_whatever_the_rest() {
    ClashDay x = Edge.full();
    is("none then", x.note(-1, MIN, MAX), 0);
    is("count 9", x.count(9), 0);
    x = Edge.busy();
    is("none then", x.note(-1, 30, -1), 0);
    is("count 9", x.count(9), 0);
  }

  static void p35_note_is_no_act() {
    ClashDay x = Edge.busy();
    x.note(3, 3, 3);
    is("count 10", x.count(10), 3);
    x.undo();
    is("count 9", x.count(9), 3);
  }

  static void p35_note_behind_the_first_and_the_last_turn() {
    for (int n = 0; n <= 9; n++) {
      ClashDay x = Due.of("day 1 20;paper 0 3;candidate 1 0 0");
      Due.rule(x, "plan 1 if turn=" + n);
      x.force(0);
      x.note(n, 0, 0);
      is("planned in turn " + n, x.resting(0), 15);
      if (n > 0) x.note(n - 1, 0, 1);
      is("and not ahead of it", x.resting(0), 15);
      x.note(n, 0, 1);
      is("behind it", x.resting(0), 0);
    }
  }

  // ---- promise 36: ruled

  static void p36_ruled_without_rules() {
    ClashDay x = Due.of(ROW);
    is("none alone", x.ruled(0), 1);
    is("none", x.ruled(1), -1);
    x.note(0, 0, 1);
    is("none such", x.ruled(0), 0);
    is("none such", x.ruled(1), -2);
  }

  static void p36_ruled_six_rules_and_none() {
    ClashDay x = Due.of(ROW);
    for (int i = 0; i < 6; i++) Due.rule(x, "plan 1");
    is("all", x.ruled(0), 7);
    is("none is ahead", x.ruled(1), -1);
  }

  static void p36_ruled_each_rule_alone() {
    ClashDay x = Due.of("day 1 20;paper 0 3;candidate 1 0 0");
    for (int i = 1; i <= 6; i++) Due.rule(x, "plan 1 if turn=" + i);
    for (int i = 0; i < 6; i++) {
      x.note(-1, 0, 0);
      x.note(i, 0, 1);
      is("behind turn " + i + ", how many", x.ruled(0), 6 - i);
      is("behind turn " + i + ", the first", x.ruled(1), i);
      x.note(i + 1, 0, 0);
      is("one alone", x.ruled(0), 1);
      is("it", x.ruled(1), i);
    }
    x.note(-1, 0, 0);
    x.note(6, 0, 1);
    is("none such", x.ruled(0), 0);
    is("none such", x.ruled(1), -2);
  }

  static void p36_ruled_the_rule_in_force_is_not_asked() {
    for (int r = -1; r < 3; r++) {
      ClashDay x = Edge.busy();
      x.force(r);
      is("how many", x.ruled(0), 3);
      is("the first", x.ruled(1), -1);
    }
  }

  static void p36_ruled_all_as_the_text_told_it() {
    ClashDay x = Due.of(ROW);
    x.note(0, 0, 0);
    x.take(0, 1);
    x.delay(0, 9);
    is("how many", x.ruled(0), 1);
  }

  static void p36_ruled_for_others_or_without_a_day() {
    for (int w : new int[] {2, -1, MIN, MAX}) Edge.sameInAll("what " + w, x -> x.ruled(w), -3);
    for (int w = 0; w < 2; w++) is("no day", Edge.noDay().ruled(w), -3);
  }

  static void p36_ruled_nothing_changes() {
    Edge.quiet("ruled", x -> x.ruled(0));
    Edge.quiet("ruled", x -> x.ruled(1));
  }

  // ---- promise 37: look

  static void p37_look_behind_turns_0_to_9() {
    for (int n = 0; n <= 9; n++) {
      ClashDay x = Due.of("day 1 20;paper 5 3;candidate 1 0 0");
      Due.rule(x, "plan 1 if turn=" + n);
      Due.rule(x, "plan 0");
      if (n > 0) {
        // none is not so: it would have planned in turn 0
        x.note(0, 5, 1);
        is("ahead of turn " + n + ", nothing parts them", x.look(n - 1, 0), 0);
        is("ahead of turn " + n + ", both are alike", x.look(n - 1, 1), 2);
      }
      is("behind turn " + n + ", the slot", x.look(n, 0), 5);
      // in turn 0 none and rule 0 are alike
      is("behind turn " + n + ", how many", x.look(n, 1), n > 0 ? 1 : 2);
    }
  }

  static void p37_look_without_these() {
    for (int n : new int[] {-1, 10, MIN, MAX}) Edge.sameInAll("behind turn " + n, x -> x.look(n, 0), -1);
    for (int w : new int[] {2, -1, MIN, MAX}) Edge.sameInAll("what " + w, x -> x.look(0, w), -1);
  }

  static void p37_look_without_a_day() {
    for (int n = 0; n <= 9; n++) for (int w = 0; w < 2; w++) is("no day", Edge.noDay().look(n, w), -1);
  }

  static void p37_look_no_rule_is_so() {
    ClashDay x = Due.of(ROW);
    Due.rule(x, "plan 1");
    x.note(0, 0, 1);
    for (int n = 0; n <= 9; n++) for (int w = 0; w < 2; w++) is("no rule", x.look(n, w), -2);
    is("n 10", x.look(10, 0), -1);
    is("what 2", x.look(0, 2), -1);
  }

  static void p37_look_one_alone() {
    ClashDay x = Due.of(ROW);
    for (int n = 0; n <= 9; n++) {
      is("the least slot", x.look(n, 0), 0);
      is("one", x.look(n, 1), 1);
    }
  }

  static void p37_look_all_alike() {
    ClashDay x = Due.of(ROW);
    for (int i = 0; i < 6; i++) Due.rule(x, "plan 1");
    is("the least slot", x.look(9, 0), 0);
    is("all seven", x.look(9, 1), 7);
  }

  static void p37_look_the_sixth_rule_too() {
    ClashDay x = Due.of(ROW);
    for (int i = 0; i < 5; i++) Due.rule(x, "plan 1");
    Due.rule(x, "plan 0");
    is("slot 0", x.look(0, 0), 0);
    is("six of seven are alike", x.look(0, 1), 6);
  }

  static void p37_look_each_slot_that_can_be() {
    for (int s = 0; s < 20; s++) {
      StringBuilder day = new StringBuilder("day 1 20;paper " + Math.min(s, 15) + " 1;candidate 1 0 0");
      for (int t = 15; t < s; t++) day.append(";taken").append(t).append(" 1");
      ClashDay x = Due.of(day.toString());
      Due.rule(x, "plan 0");
      is("slot " + s, x.look(0, 0), s);
      is("one", x.look(0, 1), 1);
    }
  }

  static void p37_look_the_last_slot() {
    StringBuilder day = new StringBuilder("day 1 20;paper 15 1;candidate 1 0 0");
    for (int s = 15; s < 29; s++) day.append(";taken").append(s).append(" 1");
    ClashDay x = Due.of(day.toString());
    Due.rule(x, "plan 0");
    is("slot 29 alone", x.look(0, 0), 29);
    is("one", x.look(0, 1), 1);
  }

  static void p37_look_the_most_alike_are_fewest() {
    // by none 0 is planned in slots 0 to 3, by rule 0 1 in 2 to 5, by rule 1 2 in 4 to 7, by rules 2 and 3 nobody
    ClashDay x = Due.of("day 1 20;paper 0 4;paper 2 4;paper 4 4;candidate 1 0 0;candidate 2 0 0;candidate 4 0 0");
    Due.rule(x, "plan 1 if candidate=1");
    Due.rule(x, "plan 1 if candidate=2");
    // slot 0: one against two; slot 2: two against one
    is("slot 0", x.look(0, 0), 0);
    is("two", x.look(0, 1), 2);
    Due.rule(x, "plan 0");
    // slot 0: one against three; slots 2 to 5: two against two
    is("slot 2", x.look(0, 0), 2);
    is("two", x.look(0, 1), 2);
    Due.rule(x, "plan 0");
    is("slot 2", x.look(0, 0), 2);
    is("three", x.look(0, 1), 3);
  }

  static void p37_look_those_that_are_as_noted_alone() {
    ClashDay x = Due.of("day 1 20;paper 0 4;paper 2 4;candidate 1 0 0;candidate 2 0 0");
    Due.rule(x, "plan 1 if candidate=1");
    Due.rule(x, "plan 0");
    x.note(0, 0, 1);
    is("rules 0 and 1 part by slot 2", x.look(0, 0), 2);
    is("one", x.look(0, 1), 1);
  }

  static void p37_look_nothing_changes() {
    Edge.quiet("look", x -> x.look(9, 0));
    Edge.quiet("look", x -> x.look(0, 1));
  }

  // ---- promise 38: seed

  static void p38_seed_0_to_the_greatest() {
    ClashDay x = new ClashDay();
    is("0 at first", x.seed(MAX), 0);
    is("what it was", x.seed(MAX - 1), MAX);
    is("what it was", x.seed(1), MAX - 1);
    is("what it was", x.seed(0), 1);
    is("what it was", x.seed(0), 0);
  }

  static void p38_seed_below_0_is_refused() {
    Edge.sameInAll("seed -1", x -> x.seed(-1), -1);
    Edge.sameInAll("seed MIN", x -> x.seed(MIN), -1);
  }

  static void p38_seed_is_no_act() {
    ClashDay x = Edge.busy();
    is("what it was", x.seed(7), 12345);
    is("count 10", x.count(10), 3);
    x.undo();
    is("count 11", x.count(11), 7);
  }

  // ---- promise 39: ill

  /** All three are planned, kept in 0, 3 and 6 slots, and nobody is by the rule in force. */
  private static ClashDay well(int x) {
    ClashDay y = planned(ROW);
    Due.rule(y, "plan 0");
    y.force(0);
    y.seed(x);
    return y;
  }

  static void p39_ill_draws_go_round() {
    // of 2147483647 the draws are 15929 (29 of 100), 4409 (9 of 100, 2 of 3), 9862 (62 of 100, 1 of 3)
    ClashDay x = well(MAX);
    is("29 is not below 29", x.ill(1, 1, 29, 0), 3);
    is("29 is not below 29", x.ill(1, 1, 29, 1), 9);
    is("29 is below 30: candidate 2", x.ill(1, 1, 30, 0), 2);
    is("candidate 2", x.ill(1, 1, 30, 1), 3);
    is("x as it was", x.count(11), MAX);
  }

  static void p39_ill_no_second_draw_if_it_is_not_below() {
    // 29 is not below 29; 9 is, and of the next draw it is candidate 1
    ClashDay x = well(MAX);
    is("planned", x.ill(1, 2, 29, 0), 2);
    is("kept", x.ill(1, 2, 29, 1), 6);
    is("two times one turn, planned", x.ill(2, 1, 29, 0), 5);
    is("two times one turn, kept", x.ill(2, 1, 29, 1), 15);
  }

  static void p39_ill_p_0_and_100() {
    // of x 0 the first draw is 0
    ClashDay x = well(0);
    is("0 is not below 0", x.ill(1, 1, 0, 0), 3);
    is("0 is below 1", x.ill(1, 1, 1, 0), 2);
    is("never", x.ill(5, 9, 0, 0), 15);
    is("never", x.ill(5, 9, 0, 1), 45);
    // of x 194 the first draw is 22599, 99 of 100
    x = well(194);
    is("99 is not below 99", x.ill(1, 1, 99, 0), 3);
    is("99 is below 100", x.ill(1, 1, 100, 0), 2);
  }

  static void p39_ill_m_1_to_5_and_n_1_to_9() {
    ClashDay x = Due.of(SIX);
    for (int m = 1; m <= 5; m++)
      for (int n = 1; n <= 9; n++) is(m + " times " + n, x.ill(m, n, 0, 0), m * Math.min(n, 6));
  }

  static void p39_ill_without_these() {
    for (int m : new int[] {0, 6, -1, MIN, MAX}) Edge.sameInAll("m " + m, x -> x.ill(m, 1, 0, 0), -1);
    for (int n : new int[] {0, 10, -1, MIN, MAX}) Edge.sameInAll("n " + n, x -> x.ill(1, n, 0, 0), -1);
    for (int p : new int[] {-1, 101, MIN, MAX}) Edge.sameInAll("p " + p, x -> x.ill(1, 1, p, 0), -1);
    for (int w : new int[] {2, -1, MIN, MAX}) Edge.sameInAll("what " + w, x -> x.ill(1, 1, 0, w), -1);
  }

  static void p39_ill_without_a_day() {
    for (int w = 0; w < 2; w++) is("no day", Edge.noDay().ill(1, 1, 0, w), -1);
  }

  static void p39_ill_without_candidates() {
    for (int w = 0; w < 2; w++) is("what " + w, Due.of("day 1 1").ill(5, 9, 100, w), 0);
  }

  static void p39_ill_one_candidate_alone() {
    ClashDay x = planned("day 1 20;paper 0 1;candidate 1 0 0");
    Due.rule(x, "plan 0");
    x.force(0);
    is("well", x.ill(1, 1, 0, 0), 1);
    is("ill", x.ill(1, 1, 100, 0), 0);
    is("ill, five times", x.ill(5, 9, 100, 0), 0);
  }

  static void p39_ill_of_all_candidates_who_is_planned() {
    // of x 0 the second draw is 21468: of all three it is candidate 0, who waits (of the two planned it would be 1)
    ClashDay x = well(0);
    x.drop(0);
    is("nobody", x.ill(1, 1, 1, 0), 2);
    is("kept", x.ill(1, 1, 1, 1), 9);
  }

  static void p39_ill_ahead_of_the_turn() {
    // without a rule who fell ill is planned again in the same turn
    ClashDay x = well(0);
    x.force(-1);
    is("planned", x.ill(5, 9, 100, 0), 15);
    is("kept", x.ill(5, 9, 100, 1), 45);
  }

  static void p39_ill_nothing_stays() {
    Edge.quiet("ill", x -> x.ill(5, 9, 100, 0));
    Edge.quiet("ill", x -> x.ill(1, 1, 50, 1));
  }

  // ---- promise 40: count

  static void p40_count_each_what() {
    ClashDay x = Edge.busy();
    int[] due = {2, 9, 3, 4, 3, 1, 1, 6, 3, 2, 3, 12345, 33};
    for (int w = 0; w < 13; w++) is("what " + w, x.count(w), due[w]);
  }

  static void p40_count_of_what_is_full() {
    ClashDay x = Edge.full();
    int[] due = {2, 9, 3, 4, 6, 1, 1, 6, 3, 10, 20, 12345, 400};
    for (int w = 0; w < 13; w++) is("what " + w, x.count(w), due[w]);
  }

  static void p40_count_for_others() {
    for (int w : new int[] {13, -1, MIN, MAX}) Edge.sameInAll("what " + w, x -> x.count(w), -1);
  }

  static void p40_count_without_a_day() {
    ClashDay x = Edge.noDay();
    int[] due = {0, 0, 0, 0, 2, 1, 0, 0, 0, 0, 0, 5, 6};
    for (int w = 0; w < 13; w++) is("what " + w, x.count(w), due[w]);
  }

  static void p40_count_who_waits_as_bits() {
    ClashDay x = planned(SIX);
    is("nobody", x.count(7), 0);
    for (int c = 5; c >= 0; c--) {
      x.drop(c);
      is("who waits", x.count(7), 63 - ((1 << c) - 1));
    }
  }

  // ---- promise 41: image

  static void p41_image_0_to_3_answers_the_turn() {
    ClashDay x = Due.of("day 1 1");
    for (int k = 0; k < 4; k++) {
      is("image " + k, x.image(k), k);
      x.turn();
    }
    for (int k = 3; k >= 0; k--) is("back " + k, x.back(k), k);
  }

  static void p41_image_without_it() {
    for (int k : new int[] {-1, 4, MIN, MAX}) Edge.sameInAll("image " + k, x -> x.image(k), -1);
  }

  static void p41_image_made_again_is_the_later_one() {
    ClashDay x = Due.of("day 1 1");
    x.image(0);
    x.turn();
    is("image", x.image(0), 1);
    x.turn();
    is("back", x.back(0), 1);
  }

  static void p41_image_is_no_act_and_takes_none_away() {
    ClashDay x = Edge.busy();
    x.image(3);
    is("count 10", x.count(10), 3);
    is("undo", x.undo(), 2);
  }

  static void p41_image_without_a_day() {
    ClashDay x = new ClashDay();
    is("image", x.image(0), 0);
    Due.day(x, ROW);
    is("back", x.back(0), 0);
    is("no day", x.free(0), -1);
    is("no day", x.count(0), 0);
  }

  // ---- promise 42: back

  static void p42_back_never_made_is_refused() {
    Edge.same(Edge::noDay, "back 0", x -> x.back(0), -1);
    Edge.same(Edge::noDay, "back 3", x -> x.back(3), -1);
    Edge.same(Edge::busy, "back 0", x -> x.back(0), -1);
    Edge.same(Edge::busy, "back 3", x -> x.back(3), -1);
  }

  static void p42_back_without_it_is_refused() {
    for (int k : new int[] {-1, 4, MIN, MAX}) Edge.sameInAll("back " + k, x -> x.back(k), -1);
  }

  static void p42_back_all_is_as_it_was() {
    ClashDay x = Edge.busy();
    x.image(0);
    for (int c = 0; c < 4; c++) x.drop(c);
    x.delay(0, 5);
    for (int s = 0; s < 30; s++) x.take(s, 9);
    x.turn();
    x.force(-1);
    x.seed(1);
    x.note(-1, 0, 0);
    x.day();
    is("back", x.back(0), 1);
    int[] due = {2, 9, 3, 4, 3, 1, 1, 6, 3, 2, 0, 12345, 0};
    for (int w = 0; w < 13; w++) is("count " + w, x.count(w), due[w]);
    is("START", x.paper(0, 0), 0);
    is("begins", x.begins(3, 2), 8);
    is("taken by hand", x.free(7), 0);
    is("taken as told", x.free(25), 0);
    is("free", x.free(29), 2);
    is("the notes and the text", x.ruled(0), 3);
  }

  static void p42_back_nothing_can_be_undone_then() {
    ClashDay x = Edge.busy();
    x.back(2);
    is("count 10", x.count(10), 0);
    is("undo", x.undo(), -1);
    x.turn();
    is("count 10", x.count(10), 1);
    is("undo", x.undo(), 0);
  }

  static void p42_back_the_tape_and_the_rules_stay() {
    ClashDay x = Edge.busy();
    Due.rule(x, "plan 5");
    Due.tell(x, "day 7 7;paper 7 6;candidate 1 7 1");
    is("back", x.back(1), 0);
    is("rules", x.count(4), 4);
    is("none in force", x.count(5), -1);
    is("tape", x.count(12), 33);
    is("force", x.force(3), -1);
    is("day", x.day(), 1);
    is("SEATS", x.count(0), 7);
  }

  static void p42_back_the_rule_in_force_too() {
    ClashDay x = Edge.busy();
    x.force(2);
    is("back", x.back(2), 1);
    is("rule 1", x.count(5), 1);
    is("back", x.back(1), 0);
    is("none", x.count(5), -1);
  }

  static void p42_back_again_and_again() {
    ClashDay x = Edge.busy();
    for (int i = 0; i < 3; i++) {
      is("back 2", x.back(2), 1);
      is("who waits", x.count(7), 14);
      x.turn();
      is("back 1", x.back(1), 0);
      is("who waits", x.count(7), 15);
      x.delay(0, 1);
    }
  }

  static void p42_back_with_the_notes_as_they_were() {
    ClashDay x = Due.of("day 1 20;paper 0 1;paper 0 1;candidate 3 0 0");
    x.note(0, 4, 0);
    x.image(0);
    x.note(-1, 0, 0);
    is("other notes", x.note(1, 2, 1), 1);
    is("not REST 1", x.resting(0), 13);
    x.image(1);
    x.note(-1, 0, 0);
    x.back(0);
    is("REST 3", x.resting(0), 8);
    x.back(1);
    is("not REST 1", x.resting(0), 13);
    x.back(0);
    x.note(0, 4, 1);
    is("none", x.resting(0), 0);
    is("back", x.back(0), 0);
    is("count 9", x.count(9), 1);
    is("REST 3", x.resting(0), 8);
  }

  static void p42_back_with_the_turns_that_were_noted() {
    ClashDay x = Due.of("day 1 20;paper 0 1;candidate 1 0 0");
    Due.rule(x, "plan 1 if turn=1");
    x.force(0);
    x.note(0, 0, 1);
    x.image(0);
    is("planned in turn 1", x.resting(0), 15);
    x.note(-1, 0, 0);
    x.note(1, 0, 1);
    is("behind turn 1 it is not free", x.resting(0), 0);
    x.back(0);
    is("behind turn 0 it is", x.resting(0), 15);
  }

  static void p42_back_where_each_paper_began() {
    ClashDay x = Due.of(ROW);
    x.plan(0);
    x.image(0);
    x.drop(0);
    x.plan(1);
    x.plan(0);
    is("begins", x.begins(0, 0), 3);
    x.back(0);
    is("where it began", x.begins(0, 0), 0);
    is("line", x.line(0, 2), 'A');
    is("waits", x.candidate(1, 3), 1);
  }

  static void p42_back_with_the_text_as_it_was() {
    ClashDay x = Due.of(ROW);
    x.image(0);
    Due.day(x, "day 1 20;paper 0 6;candidate 1 0 0");
    x.back(0);
    x.note(0, 2, 0);
    x.note(0, 3, 1);
    is("as the first text told it", x.ruled(0), 1);
    is("candidate 2", x.resting(2), 15);
  }
}
