/** Edges of promises 7 to 16: what was told, TIME, FREE, ORDERS, PLANS, TURNS and ACTS (part II of the terms). */
final class EdgesOfActs {
  private static final int MIN = Edge.MIN, MAX = Edge.MAX;
  /** Five papers and six candidates. */
  static final String ALL = "day 9 20;paper 0 1;paper 3 2;paper 6 3;paper 9 4;paper 15 5;candidate 1 0 0;"
      + "candidate 2 20 1;candidate 4 40 2;candidate 8 60 3;candidate 16 100 0;candidate 31 0 1";
  /** Three who would finish in 6, 9 and 11, be kept in 1, 0 and 4 slots, work 5, 6 and 7. */
  static final String THREE = "day 2 8;paper 0 2;paper 1 3;paper 6 2;"
      + "candidate 3 0 1;candidate 5 50 0;candidate 7 0 2;taken 4 1";
  /** Three who sit one paper of three slots, one seat. */
  static final String ROW = "day 1 20;paper 0 3;candidate 1 0 0;candidate 1 0 0;candidate 1 0 0";

  private static void is(String what, int got, int want) { Edge.is(what, got, want); }

  // ---- promise 7: paper

  static void p07_paper_the_first_and_the_last() {
    ClashDay x = Due.of(ALL);
    int[][] due = {{0, 1, 33}, {3, 2, 34}, {6, 3, 36}, {9, 4, 40}, {15, 5, 48}};
    for (int p = 0; p < 5; p++) for (int w = 0; w < 3; w++) is("paper " + p + " " + w, x.paper(p, w), due[p][w]);
  }

  static void p07_paper_that_nobody_sits_and_that_all_sit() {
    ClashDay x = Due.of("day 1 1;paper 0 1;paper 0 1" + ";candidate 2 0 0".repeat(6));
    is("nobody", x.paper(0, 2), 0);
    is("all", x.paper(1, 2), 63);
  }

  static void p07_paper_without_these() {
    Edge.sameWithDay("paper 3 of 3", x -> x.paper(3, 0), -1);
    Edge.sameInAll("paper -1", x -> x.paper(-1, 0), -1);
    Edge.sameInAll("paper 5", x -> x.paper(5, 0), -1);
    Edge.sameInAll("paper MAX", x -> x.paper(MAX, 0), -1);
    Edge.sameInAll("paper MIN", x -> x.paper(MIN, 0), -1);
    Edge.sameInAll("what 3", x -> x.paper(0, 3), -1);
    Edge.sameInAll("what -1", x -> x.paper(0, -1), -1);
    is("paper 5 of 5", Due.of(ALL).paper(5, 0), -1);
    is("no papers", Due.of("day 1 1").paper(0, 0), -1);
  }

  static void p07_paper_without_a_day() {
    for (int w = 0; w < 3; w++) is("what " + w, Edge.noDay().paper(0, w), -1);
  }

  static void p07_paper_start_behind_a_delay() {
    ClashDay x = Due.of(ALL);
    x.delay(0, 9);
    is("START", x.paper(0, 0), 9);
    is("LENGTH", x.paper(0, 1), 1);
  }

  // ---- promise 8: candidate

  static void p08_candidate_the_first_and_the_last() {
    ClashDay x = Due.of(ALL);
    int[][] due = {{1, 0, 0, 1}, {2, 20, 1, 1}, {4, 40, 2, 1}, {8, 60, 3, 1}, {16, 100, 0, 1}, {31, 0, 1, 1}};
    for (int c = 0; c < 6; c++) for (int w = 0; w < 4; w++) is(c + " " + w, x.candidate(c, w), due[c][w]);
  }

  static void p08_candidate_waits_1_else_0() {
    ClashDay x = Due.of(ALL);
    x.plan(5);
    is("planned", x.candidate(5, 3), 0);
    is("waits", x.candidate(4, 3), 1);
    x.drop(5);
    is("waits again", x.candidate(5, 3), 1);
  }

  static void p08_candidate_without_these() {
    Edge.sameWithDay("candidate 4 of 4", x -> x.candidate(4, 0), -1);
    Edge.sameInAll("candidate -1", x -> x.candidate(-1, 0), -1);
    Edge.sameInAll("candidate 6", x -> x.candidate(6, 3), -1);
    Edge.sameInAll("candidate 32", x -> x.candidate(32, 3), -1);
    Edge.sameInAll("candidate MAX", x -> x.candidate(MAX, 0), -1);
    Edge.sameInAll("candidate MIN", x -> x.candidate(MIN, 0), -1);
    Edge.sameInAll("what 4", x -> x.candidate(0, 4), -1);
    Edge.sameInAll("what -1", x -> x.candidate(0, -1), -1);
    is("candidate 6 of 6", Due.of(ALL).candidate(6, 0), -1);
  }

  static void p08_candidate_without_a_day() {
    for (int w = 0; w < 4; w++) is("what " + w, Edge.noDay().candidate(0, w), -1);
  }

  // ---- promise 9: free

  static void p09_free_the_first_and_the_last_slot() {
    ClashDay x = Due.of("day 9 1;taken 0 1;taken 19 2;taken 20 3;taken 29 4");
    int[][] due = {{0, 8}, {1, 9}, {19, 7}, {20, 6}, {28, 9}, {29, 5}};
    for (int[] d : due) is("free " + d[0], x.free(d[0]), d[1]);
  }

  static void p09_free_without_such_a_slot() {
    Edge.sameInAll("slot -1", x -> x.free(-1), -1);
    Edge.sameInAll("slot 30", x -> x.free(30), -1);
    Edge.sameInAll("slot MAX", x -> x.free(MAX), -1);
    Edge.sameInAll("slot MIN", x -> x.free(MIN), -1);
  }

  static void p09_free_without_a_day() {
    for (int s = 0; s < 30; s++) is("slot " + s, Edge.noDay().free(s), -1);
  }

  static void p09_free_less_those_who_sit() {
    ClashDay x = Due.of("day 3 20;paper 0 3" + ";candidate 1 0 0".repeat(3));
    for (int c = 0; c < 3; c++) {
      x.plan(c);
      is("the first slot", x.free(0), 2 - c);
      is("the last slot", x.free(2), 2 - c);
      is("behind it", x.free(3), 3);
    }
  }

  static void p09_free_who_is_kept_has_no_seat() {
    ClashDay x = Due.of("day 1 20;paper 0 1;candidate 1 0 0;taken 0 1");
    x.plan(0);
    x.take(0, 0);
    is("kept", x.line(0, 0), 'k');
    is("free", x.free(0), 1);
  }

  static void p09_free_is_0_at_least() {
    ClashDay x = Due.of("day 2 20;paper 0 3;candidate 1 0 0;taken 5 2;taken 6 3;taken 7 9");
    is("as many taken", x.free(5), 0);
    is("one more taken", x.free(6), 0);
    is("nine taken", x.free(7), 0);
    x.plan(0);
    x.take(0, 1);
    is("taken and sat", x.free(0), 0);
    x.take(0, 2);
    is("more than all", x.free(0), 0);
    x.take(0, 9);
    is("more than all", x.free(0), 0);
  }

  // ---- promise 10: time

  static void p10_time_is_upwards() {
    int[][] due = {{1, 0, 1}, {1, 1, 2}, {1, 99, 2}, {1, 100, 2}, {2, 50, 3}, {2, 51, 4}, {3, 33, 4}, {3, 34, 5},
        {5, 20, 6}, {5, 21, 7}, {6, 83, 11}, {6, 84, 12}, {6, 99, 12}, {6, 100, 12}};
    for (int[] d : due) {
      ClashDay x = Due.of("day 1 1;paper 0 " + d[0] + ";candidate 1 " + d[1] + " 0");
      is("LENGTH " + d[0] + " EXTRA " + d[1], x.time(0, 0), d[2]);
    }
  }

  static void p10_time_the_first_and_the_last() {
    ClashDay x = Due.of(ALL);
    is("time 0 0", x.time(0, 0), 1);
    is("time 4 4", x.time(4, 4), 10);
    is("time 5 4", x.time(5, 4), 5);
  }

  static void p10_time_of_a_paper_they_do_not_sit() {
    ClashDay x = Due.of(ALL);
    is("time 0 1", x.time(0, 1), -1);
    is("time 4 3", x.time(4, 3), -1);
    is("time 4 0", x.time(4, 0), -1);
  }

  static void p10_time_without_these() {
    Edge.sameWithDay("paper 3 of 3", x -> x.time(2, 3), -1);
    Edge.sameWithDay("candidate 4 of 4", x -> x.time(4, 0), -1);
    Edge.sameInAll("paper -1", x -> x.time(2, -1), -1);
    Edge.sameInAll("paper 32", x -> x.time(2, 32), -1);
    Edge.sameInAll("candidate -1", x -> x.time(-1, 0), -1);
    Edge.sameInAll("MAX", x -> x.time(MAX, MAX), -1);
    Edge.sameInAll("MIN", x -> x.time(MIN, MIN), -1);
    is("paper 5 of 5", Due.of(ALL).time(5, 5), -1);
    is("candidate 6 of 6", Due.of(ALL).time(6, 0), -1);
  }

  static void p10_time_without_a_day() {
    is("time", Edge.noDay().time(0, 0), -1);
  }

  static void p10_time_of_one_that_waits_and_of_one_that_is_planned() {
    ClashDay x = Due.of(ALL);
    x.plan(1);
    is("planned", x.time(1, 1), 3);
    x.drop(1);
    is("waits", x.time(1, 1), 3);
  }

  // ---- promise 11: turn

  private static ClashDay byRule(String day, String rule) {
    ClashDay x = Due.of(day);
    is("rule \"" + rule + "\"", Due.rule(x, rule), 0);
    x.force(0);
    return x;
  }

  private static void planned(String rule, int who) { is(rule, byRule(THREE, rule).turn(), who); }

  static void p11_turn_without_a_day_is_refused() {
    Edge.same(Edge::noDay, "turn", ClashDay::turn, -1);
  }

  static void p11_turn_nobody_is_a_turn_all_the_same() {
    ClashDay x = byRule(THREE, "plan 0");
    for (int i = 1; i <= 3; i++) {
      is("nobody", x.turn(), -2);
      is("TURN", x.count(6), i);
      is("an ACT", x.count(10), i);
      is("all wait", x.count(7), 7);
    }
  }

  static void p11_turn_without_candidates() {
    ClashDay x = Due.of("day 1 1");
    is("nobody", x.turn(), -2);
    is("TURN", x.count(6), 1);
  }

  static void p11_turn_when_all_are_planned() {
    ClashDay x = Due.of(THREE);
    for (int i = 0; i < 3; i++) is("turn", x.turn(), i);
    is("nobody", x.turn(), -2);
    is("TURN", x.count(6), 4);
  }

  static void p11_turn_999_is_the_last_by_hand() {
    ClashDay x = Due.of("day 1 1");
    for (int i = 0; i < 998; i++) x.turn();
    is("TURN", x.count(6), 998);
    is("in TURN 998", x.turn(), -2);
    is("TURN", x.count(6), 999);
    is("in TURN 999", x.turn(), -1);
    is("TURN", x.count(6), 999);
    is("ACTS", x.count(10), 20);
    is("undo", x.undo(), 19);
    is("TURN", x.count(6), 998);
  }

  static void p11_turn_without_a_rule_the_least_that_can_be() {
    // candidate 0 has no plan: 12 slots are left on neither day
    ClashDay x = Due.of("day 1 20;paper 9 6;paper 0 1;candidate 1 100 0;candidate 2 0 0;candidate 2 0 0");
    is("the least that can", x.turn(), 1);
    is("the next", x.turn(), 2);
    is("nobody", x.turn(), -2);
  }

  static void p11_turn_sum_must_be_above_0() {
    planned("plan 1", 0);
    planned("plan 0", -2);
    planned("plan 0-1", -2);
    planned("plan candidate", 2);
    planned("plan candidate-2", -2);
    planned("plan candidate-1", 2);
  }

  static void p11_turn_greatest_and_of_several_the_least() {
    planned("plan 5 if candidate=0;plan 7", 1);
    planned("plan 7 if candidate=1;plan 5", 1);
    planned("plan 7 if candidate=2;plan 5", 2);
    planned("plan 7 if candidate>0;plan 6", 1);
    planned("plan 7", 0);
  }

  static void p11_turn_clause_first_whose_test_holds() {
    planned("plan 1 if candidate=2;plan 9 if candidate=2;plan 2 if candidate=1", 1);
    planned("plan 0;plan 5", -2);
    planned("plan 1 if 1=2;plan 1 if 2=3", -2);
    planned("plan 1 if 1=2;plan candidate", 2);
  }

  static void p11_turn_clause_the_twelfth() {
    planned("plan 1 if 1=2" + ";plan 1 if 1=2".repeat(10) + ";plan candidate", 2);
    planned("plan 1 if 1=2" + ";plan 1 if 1=2".repeat(11), -2);
  }

  static void p11_turn_words_at_first() {
    planned("plan 1 if candidate=0 and papers=2 and extra=0 and rest=1 and nights=0 and kept=1 and finish=6 and work=5", 0);
    planned("plan 1 if candidate=1 and papers=2 and extra=50 and rest=0 and nights=0 and kept=0 and finish=9 and work=6", 1);
    planned("plan 1 if candidate=2 and papers=3 and extra=0 and rest=2 and nights=0 and kept=4 and finish=11 and work=7", 2);
    planned("plan 1 if busy=1 and waiting=3 and turn=0", 0);
  }

  static void p11_turn_words_busy_waiting_and_turn_go_on() {
    ClashDay x = byRule(THREE, "plan 1 if busy=1 and waiting=3 and turn=0;plan 1 if busy=2 and waiting=2 and turn=1;"
        + "plan 1 if busy=2 and waiting=1 and turn=2");
    for (int i = 0; i < 3; i++) is("turn", x.turn(), i);
  }

  static void p11_turn_word_busy_from_0_to_the_seats() {
    String one = ";paper 0 1;candidate 1 0 0";
    is("0", byRule("day 9 20" + one, "plan 1 if busy=0").turn(), 0);
    is("of the first slot", byRule("day 9 20" + one + ";taken 0 4", "plan 1 if busy=4").turn(), 0);
    is("of the last slot", byRule("day 9 20" + one + ";taken 29 4", "plan 1 if busy=4").turn(), 0);
    is("all", byRule("day 3 20" + one + ";taken 29 3", "plan 1 if busy=3").turn(), 0);
    is("no more than all", byRule("day 3 20" + one + ";taken 29 9", "plan 1 if busy=3").turn(), 0);
  }

  static void p11_turn_word_nights() {
    ClashDay x = byRule("day 1 1;paper 0 2;paper 0 2;candidate 1 0 0;candidate 3 0 0", "plan 1 if nights=2");
    is("two nights", x.turn(), 1);
    x = byRule("day 1 20;paper 15 5;paper 15 6;candidate 1 0 0;candidate 2 0 0", "plan nights");
    is("one night", x.turn(), 1);
  }

  static void p11_turn_signs_at_their_edges() {
    String[][] due = {{"1<2", "2<2"}, {"2<=2", "3<=2"}, {"2=2", "2=3"}, {"2>=2", "2>=3"}, {"3>2", "2>2"},
        {"0-1<0", "0<0-1"}, {"0-2<=0-2", "0-1<=0-2"}};
    for (String[] d : due) {
      planned("plan 1 if " + d[0], 0);
      planned("plan 1 if " + d[1], -2);
      planned("plan 1 if not " + d[0], -2);
      planned("plan 1 if not " + d[1], 0);
      planned("plan 1 if not not " + d[0] + " and " + d[0], 0);
      planned("plan 1 if " + d[1] + " or not not " + d[1], -2);
    }
  }

  static void p11_turn_numbers_0_and_99999() {
    planned("plan 1 if 99999=99998+1 and 00000=0", 0);
    planned("plan 99999-99998", 0);
    planned("plan 99999-99999", -2);
  }

  static void p11_turn_what_binds_closer() {
    planned("plan 1 if 2+3*4=14 and 2*3+4=10 and 20-6/2=17 and 9-7%4=6", 0);
    planned("plan 1 if 20-3-4=13 and 20-3+4=21 and 100/7*2=28 and 100%7*3=6 and 7*3%4=1", 0);
    planned("plan 1 if 1=1 or 1=1 and 1=2", 0);
    planned("plan 1 if 1=2 and 1=1 or 1=1", 0);
    planned("plan 1 if [1=1 or 1=1] and 1=2", -2);
    planned("plan 1 if 1=2 and [1=1 or 1=1]", -2);
    planned("plan 1 if not 1=2 and 1=2", -2);
    planned("plan 1 if not [1=2 and 1=2]", 0);
    planned("plan 1 if not 1=1 or 1=1", 0);
    planned("plan 1 if not not 1=1", 0);
  }

  static void p11_turn_by_0_both_are_0() {
    planned("plan 1 if 5/0=0 and 5%0=0 and 0/0=0 and 0%0=0", 0);
    planned("plan 1 if 5/0+1=1 and 5%0*3+1=1 and 5/nights=0 and 5%nights=0", 0);
    planned("plan 7/0", -2);
    planned("plan 7%0", -2);
  }

  /** 2 to the 63rd goes round, and is the least number. */
  private static final String LEAST = "32768*32768*32768*32768*8";

  static void p11_turn_goes_round_in_64_bits() {
    planned("plan " + LEAST, -2);
    planned("plan " + LEAST + "-1", 0);
    planned("plan 1 if " + LEAST + "<0 and " + LEAST + "-1>0", 0);
    planned("plan 1 if 0-" + LEAST + "=" + LEAST, 0);
    planned("plan 1 if " + LEAST + "*2=0", 0);
    planned("plan " + LEAST + "-1 if candidate=1;plan 32768*32768*32768*32768*4", 1);
    planned("plan 1 if 65536*65536=0", -2);
  }

  static void p11_turn_over_is_towards_0() {
    // the least number is ..808 below 0, so a tenth of it ..80.8
    planned("plan 1 if " + LEAST + "/10*10-8=" + LEAST, 0);
    planned("plan 1 if 7/2=3 and 6/2=3 and 1/2=0", 0);
  }

  static void p11_turn_rest_has_the_sign_of_what_is_parted() {
    // 2 to the third is 1 of 7, so 2 to the 63rd is
    planned("plan 1 if " + LEAST + "%7=0-1", 0);
    planned("plan 1 if " + LEAST + "%10=0-8", 0);
    planned("plan 1 if 7%2=1 and 6%2=0 and 2%7=2", 0);
  }

  static void p11_turn_rule_of_60_values() {
    planned("plan 1" + "+1".repeat(54) + "-55+candidate if 1=1", 2);
    planned("plan 1" + "*1".repeat(58) + "*candidate", 2);
  }

  static void p11_turn_one_planned_is_not_planned_again() {
    ClashDay x = byRule(ROW, "plan 3-candidate");
    for (int i = 0; i < 3; i++) is("turn", x.turn(), i);
    x.drop(0);
    is("again", x.turn(), 0);
  }

  // ---- promise 12: plan

  /** The one candidate is planned: their last END, then where each paper begins. */
  private static void begins(String day, int end, int... slots) {
    ClashDay x = Due.of(day);
    is(day, x.plan(0), end);
    for (int p = 0; p < slots.length; p++) is(day + ", paper " + p, x.begins(0, p), slots[p]);
  }

  static void p12_plan_without_one_that_can_be_is_refused() {
    Edge.sameWithDay("planned already", x -> x.plan(0), -1);
    Edge.sameWithDay("candidate 4 of 4", x -> x.plan(4), -1);
    Edge.sameInAll("candidate -1", x -> x.plan(-1), -1);
    Edge.sameInAll("candidate 6", x -> x.plan(6), -1);
    Edge.sameInAll("candidate 32", x -> x.plan(32), -1);
    Edge.sameInAll("candidate MAX", x -> x.plan(MAX), -1);
    Edge.sameInAll("candidate MIN", x -> x.plan(MIN), -1);
    Edge.same(Edge::noDay, "no day", x -> x.plan(0), -1);
    Edge.same(() -> {
      ClashDay x = Due.of("day 1 20;paper 9 6;candidate 1 100 0");
      x.take(0, 1);
      return x;
    }, "no PLAN", x -> x.plan(0), -1);
  }

  static void p12_plan_is_an_act_and_no_turn() {
    ClashDay x = Due.of(ALL);
    is("the first", x.plan(0), 1);
    is("the last", x.plan(5), 20);
    is("ACTS", x.count(10), 2);
    is("TURN", x.count(6), 0);
    is("who waits", x.count(7), 30);
  }

  static void p12_plan_is_without_regard_to_the_rule() {
    ClashDay x = byRule(ROW, "plan 0");
    is("plan", x.plan(2), 3);
  }

  static void p12_plan_begins_with_start_or_behind() {
    begins("day 1 20;paper 0 1;candidate 1 0 0", 1, 0);
    begins("day 1 20;paper 15 1;candidate 1 0 0", 16, 15);
    begins("day 1 20;paper 15 1;candidate 1 0 0;taken 15 1", 17, 16);
    begins("day 1 20;paper 5 1;candidate 1 0 0;taken 5 1;taken 6 1;taken 7 1", 9, 8);
  }

  static void p12_plan_rest_behind_the_end_of_the_one_ahead() {
    for (int rest = 0; rest <= 3; rest++)
      begins("day 1 20;paper 0 2;paper 0 2;candidate 3 0 " + rest, 4 + rest, 0, 2 + rest);
  }

  static void p12_plan_rest_of_a_paper_that_starts_later() {
    begins("day 1 20;paper 0 2;paper 5 2;candidate 3 0 3", 7, 0, 5);
    begins("day 1 20;paper 0 3;paper 5 2;candidate 3 0 3", 8, 0, 6);
  }

  static void p12_plan_a_night_is_rest_enough() {
    // END 18, and slot 20 is less than 3 behind it, but of another day
    begins("day 1 4;paper 14 4;paper 14 4;candidate 3 0 3", 24, 14, 20);
  }

  static void p12_plan_behind_an_end_with_the_first_day() {
    // END 20 is behind the last slot of the first day; the night is between
    for (int rest = 0; rest <= 3; rest++) begins("day 1 20;paper 15 5;paper 15 5;candidate 3 0 " + rest, 25, 15, 20);
  }

  static void p12_plan_rest_on_the_second_day() {
    for (int rest = 0; rest <= 3; rest++)
      begins("day 1 1;paper 0 2;paper 0 2;candidate 3 0 " + rest, 24 + rest, 20, 22 + rest);
  }

  static void p12_plan_all_slots_on_one_day() {
    begins("day 1 20;paper 15 5;candidate 1 0 0", 20, 15);
    begins("day 1 20;paper 15 6;candidate 1 0 0", 26, 20);
    begins("day 1 20;paper 14 6;candidate 1 0 0", 20, 14);
    begins("day 1 20;paper 14 6;candidate 1 0 0;taken 14 1", 26, 20);
  }

  static void p12_plan_ten_slots_fill_the_second_day() {
    begins("day 1 20;paper 10 5;candidate 1 100 0", 20, 10);
    begins("day 1 20;paper 11 5;candidate 1 100 0", 30, 20);
    begins("day 1 20;paper 11 5;candidate 1 100 0;taken 29 1", -1);
    begins("day 1 20;paper 11 5;candidate 1 100 0;taken 20 1", -1);
    begins("day 1 20;paper 11 5;candidate 1 100 0;taken 19 1", 30, 20);
  }

  static void p12_plan_eleven_slots_are_too_long_for_it() {
    begins("day 1 20;paper 9 6;candidate 1 83 0", 20, 9);
    begins("day 1 20;paper 10 6;candidate 1 83 0", -1);
  }

  static void p12_plan_twelve_slots_at_most() {
    begins("day 1 20;paper 8 6;candidate 1 100 0", 20, 8);
    begins("day 1 20;paper 9 6;candidate 1 100 0", -1);
  }

  static void p12_plan_a_free_seat_in_each_slot() {
    begins("day 1 20;paper 2 3;candidate 1 0 0;taken 1 1;taken 5 1", 5, 2);
    begins("day 1 20;paper 2 3;candidate 1 0 0;taken 2 1", 6, 3);
    begins("day 1 20;paper 2 3;candidate 1 0 0;taken 4 1", 8, 5);
    begins("day 2 20;paper 2 3;candidate 1 0 0;taken 4 1", 5, 2);
    begins("day 2 20;paper 2 3;candidate 1 0 0;taken 4 9", 8, 5);
  }

  static void p12_plan_seats_of_others_who_are_planned() {
    ClashDay x = Due.of("day 2 20;paper 0 3" + ";candidate 1 0 0".repeat(6));
    int[] ends = {3, 3, 6, 6, 9, 9};
    for (int c = 0; c < 6; c++) is("plan", x.plan(c), ends[c]);
  }

  static void p12_plan_hours_on_the_first_day() {
    begins("day 1 4;paper 0 2;paper 0 2;candidate 3 0 0", 4, 0, 2);
    begins("day 1 3;paper 0 2;paper 0 2;candidate 3 0 0", 22, 0, 20);
    begins("day 1 2;paper 0 2;candidate 1 0 0", 2, 0);
    begins("day 1 1;paper 0 2;candidate 1 0 0", 22, 20);
    begins("day 1 2;paper 0 2;candidate 1 1 0", 23, 20);
  }

  static void p12_plan_hours_are_each_ones_own() {
    ClashDay x = Due.of("day 9 2;paper 0 2" + ";candidate 1 0 0".repeat(6));
    for (int c = 0; c < 6; c++) is("plan", x.plan(c), 2);
  }

  static void p12_plan_hours_are_not_asked_on_the_second_day() {
    begins("day 1 1;paper 0 5;paper 0 5;candidate 3 0 0", 30, 20, 25);
    begins("day 1 1;paper 0 5;paper 0 5;candidate 3 0 1", -1);
  }

  static void p12_plan_behind_one_of_the_second_day() {
    // both hours do for paper 1 alone; by the order 0, 1 it would be behind the END of paper 0, on the second day
    begins("day 1 2;paper 0 3;paper 0 2;candidate 3 0 0", 23, 20, 0);
  }

  static void p12_plan_five_papers_in_a_row() {
    begins("day 1 20;paper 0 4;paper 0 4;paper 0 4;paper 0 4;paper 0 4;candidate 31 0 0", 20, 0, 4, 8, 12, 16);
    // one must be overnight: one of the short ones, kept in 3 slots; the first such order is 0, 1, 2, 4, 3
    begins("day 1 20;paper 0 4;paper 0 4;paper 0 4;paper 0 4;paper 0 5;candidate 31 0 0", 24, 0, 4, 8, 20, 12);
  }

  static void p12_plan_fewest_overnight_ahead_of_fewest_kept() {
    // by 2, 0, 1 one is kept in 8 slots, with two overnight: here in 9 with one
    begins("day 1 6;paper 7 2;paper 9 2;paper 9 5;candidate 7 0 0", 25, 7, 9, 20);
  }

  static void p12_plan_fewest_kept_ahead_of_least_end() {
    // by 0, 1 the end is 23, and one is kept in 16 slots: here in 15
    begins("day 1 6;paper 5 4;paper 0 3;candidate 3 0 0", 24, 20, 0);
  }

  static void p12_plan_least_end_ahead_of_the_first() {
    // kept in 14 slots by both: by 0, 1 the end is 26
    begins("day 1 6;paper 0 1;paper 6 6;candidate 3 0 0", 21, 20, 6);
  }

  static void p12_plan_of_orders_alike_the_first() {
    begins("day 1 20;paper 0 1;paper 0 1;candidate 3 0 0", 2, 0, 1);
    begins("day 1 20;paper 0 1;paper 0 1;paper 0 1;candidate 7 0 0", 3, 0, 1, 2);
  }

  // ---- promise 13: drop

  static void p13_drop_answers_how_many_wait() {
    ClashDay x = Due.of("day 6 20;paper 0 1" + ";candidate 1 0 0".repeat(6));
    for (int c = 0; c < 6; c++) x.plan(c);
    for (int c = 5; c >= 0; c--) is("drop", x.drop(c), 6 - c);
  }

  static void p13_drop_seats_are_free_again() {
    ClashDay x = Due.of(ROW);
    x.plan(0);
    is("sat", x.free(0), 0);
    x.drop(0);
    is("free", x.free(0), 1);
    is("KEPT", x.count(8), 0);
    is("begins", x.begins(0, 0), -1);
    is("plan", x.plan(1), 3);
  }

  static void p13_drop_others_stay() {
    ClashDay x = Due.of(ROW);
    for (int c = 0; c < 3; c++) x.plan(c);
    x.drop(0);
    is("where they were", x.begins(1, 0), 3);
    is("where they were", x.begins(2, 0), 6);
    is("KEPT", x.count(8), 9);
  }

  static void p13_drop_is_an_act_and_no_turn() {
    ClashDay x = Due.of(ROW);
    x.turn();
    x.drop(0);
    is("ACTS", x.count(10), 2);
    is("TURN", x.count(6), 1);
  }

  static void p13_drop_without_one_that_is_planned_is_refused() {
    Edge.sameWithDay("one that waits", x -> x.drop(1), -1);
    Edge.sameWithDay("candidate 4 of 4", x -> x.drop(4), -1);
    Edge.sameInAll("candidate -1", x -> x.drop(-1), -1);
    Edge.sameInAll("candidate 32", x -> x.drop(32), -1);
    Edge.sameInAll("candidate MAX", x -> x.drop(MAX), -1);
    Edge.sameInAll("candidate MIN", x -> x.drop(MIN), -1);
    Edge.same(Edge::noDay, "no day", x -> x.drop(0), -1);
  }

  static void p13_drop_twice_is_refused() {
    ClashDay x = Due.of(ROW);
    x.plan(0);
    is("drop", x.drop(0), 3);
    is("again", x.drop(0), -1);
  }

  // ---- promise 14: delay

  static void p14_delay_by_1_to_9() {
    for (int n = 1; n <= 9; n++) {
      ClashDay x = Due.of(ALL);
      is("delay", x.delay(0, n), n);
      is("START", x.paper(0, 0), n);
      is("an ACT", x.count(10), 1);
    }
  }

  static void p14_delay_by_others_is_refused() {
    for (int n : new int[] {0, 10, -1, MIN, MAX}) Edge.sameInAll("delay by " + n, x -> x.delay(0, n), -1);
  }

  static void p14_delay_15_at_most() {
    for (int start = 0; start < 15; start++) {
      for (int n = 1; n <= 9; n++) {
        ClashDay x = Due.of("day 1 1;paper " + start + " 1");
        is("from " + start + " by " + n, x.delay(0, n), Math.min(start + n, 15));
      }
    }
  }

  static void p14_delay_of_start_15_is_not_later() {
    for (int n : new int[] {1, 9}) {
      Edge.same(() -> {
        ClashDay x = Due.of("day 1 20;paper 15 1;candidate 1 0 0");
        x.plan(0);
        return x;
      }, "delay by " + n, x -> x.delay(0, n), -1);
    }
  }

  static void p14_delay_the_first_and_the_last_paper() {
    ClashDay x = Due.of(ALL);
    is("paper 3", x.delay(3, 1), 10);
    is("paper 0", x.delay(0, 1), 1);
    is("paper 4 can't", x.delay(4, 1), -1);
    is("others stay", x.paper(1, 0), 3);
  }

  static void p14_delay_without_such_a_paper_is_refused() {
    Edge.sameWithDay("paper 3 of 3", x -> x.delay(3, 1), -1);
    Edge.sameInAll("paper -1", x -> x.delay(-1, 1), -1);
    Edge.sameInAll("paper 5", x -> x.delay(5, 1), -1);
    Edge.sameInAll("paper MAX", x -> x.delay(MAX, 1), -1);
    Edge.sameInAll("paper MIN", x -> x.delay(MIN, 1), -1);
    Edge.same(Edge::noDay, "no day", x -> x.delay(0, 1), -1);
  }

  static void p14_delay_all_that_sit_it_and_are_planned_wait() {
    ClashDay x = Due.of(ALL);
    for (int c = 0; c < 6; c++) x.plan(c);
    is("delay", x.delay(1, 1), 4);
    is("1 and 5 sit it", x.count(7), 34);
    is("others stay", x.begins(3, 3), 9);
    is("seats are free again", x.free(0), 8);
  }

  static void p14_delay_who_waits_goes_on_waiting() {
    ClashDay x = Due.of(ALL);
    is("delay", x.delay(0, 1), 1);
    is("all wait", x.count(7), 63);
    is("by the START that is now", x.plan(0), 2);
  }

  // ---- promise 15: take

  static void p15_take_answers_how_many_were_taken() {
    ClashDay x = Due.of("day 9 1;taken 29 4");
    is("take", x.take(0, 9), 0);
    is("take", x.take(0, 1), 9);
    is("take", x.take(29, 0), 4);
    is("take", x.take(29, 5), 0);
    is("free", x.free(0), 8);
    is("free", x.free(29), 4);
    is("ACTS", x.count(10), 4);
  }

  static void p15_take_0_to_9_seats() {
    for (int n = 1; n <= 9; n++) {
      ClashDay x = Due.of("day 1 1");
      is("take", x.take(7, n), 0);
      is("take", x.take(7, 0), n);
    }
  }

  static void p15_take_other_numbers_are_refused() {
    for (int n : new int[] {-1, 10, MIN, MAX}) Edge.sameInAll("take " + n, x -> x.take(0, n), -1);
  }

  static void p15_take_the_same_number_is_refused() {
    Edge.sameWithDay("none", x -> x.take(0, 0), -1);
    Edge.sameWithDay("2 in slot 25", x -> x.take(25, 2), -1);
    Edge.sameWithDay("2 in slot 7, by hand", x -> x.take(7, 2), -1);
    is("9", Due.of("day 1 1;taken 3 9").take(3, 9), -1);
  }

  static void p15_take_without_such_a_slot_is_refused() {
    for (int s : new int[] {-1, 30, MIN, MAX}) Edge.sameInAll("slot " + s, x -> x.take(s, 5), -1);
  }

  static void p15_take_without_a_day_is_refused() {
    Edge.same(Edge::noDay, "take", x -> x.take(0, 1), -1);
    Edge.same(Edge::noDay, "take", x -> x.take(29, 9), -1);
  }

  static void p15_take_who_is_planned_stays() {
    ClashDay x = Due.of(ROW);
    x.plan(0);
    is("take", x.take(1, 9), 0);
    is("stays", x.begins(0, 0), 0);
    is("who waits", x.count(7), 6);
    is("0 at least", x.free(1), 0);
    x.drop(0);
    is("but can't be so again", x.plan(0), 5);
  }

  // ---- promise 16: undo

  static void p16_undo_without_acts_is_refused() {
    Edge.same(Edge::noDay, "no day", ClashDay::undo, -1);
    Edge.same(() -> Due.of(ALL), "a new day", ClashDay::undo, -1);
    Edge.same(() -> {
      ClashDay x = Edge.full();
      for (int i = 0; i < 20; i++) x.undo();
      return x;
    }, "all undone", ClashDay::undo, -1);
  }

  static void p16_undo_a_turn() {
    ClashDay x = Due.of(ROW);
    x.turn();
    is("undo", x.undo(), 0);
    is("TURN", x.count(6), 0);
    is("all wait", x.count(7), 7);
    is("seats", x.free(0), 1);
  }

  static void p16_undo_a_turn_of_nobody() {
    ClashDay x = Due.of("day 1 1");
    x.turn();
    is("undo", x.undo(), 0);
    is("TURN", x.count(6), 0);
  }

  static void p16_undo_a_plan() {
    ClashDay x = Due.of(ROW);
    x.plan(1);
    x.plan(2);
    is("undo", x.undo(), 1);
    is("who waits", x.count(7), 5);
    is("KEPT", x.count(8), 0);
  }

  static void p16_undo_a_drop() {
    ClashDay x = Due.of(ROW);
    x.plan(1);
    x.plan(2);
    x.drop(1);
    x.plan(0);
    x.undo();
    is("undo", x.undo(), 2);
    is("where they were", x.begins(1, 0), 0);
    is("where they were", x.begins(2, 0), 3);
    is("waits", x.candidate(0, 3), 1);
  }

  static void p16_undo_where_each_paper_began() {
    ClashDay x = Due.of(ROW);
    x.plan(0);
    x.drop(0);
    x.plan(1);
    x.plan(0);
    is("begins", x.begins(0, 0), 3);
    for (int i = 3; i > 0; i--) is("undo", x.undo(), i);
    is("where it began", x.begins(0, 0), 0);
    is("line", x.line(0, 2), 'A');
    is("line", x.line(0, 3), '.');
  }

  static void p16_undo_a_delay() {
    ClashDay x = Due.of(ROW);
    for (int c = 0; c < 3; c++) x.plan(c);
    x.delay(0, 9);
    is("undo", x.undo(), 3);
    is("START", x.paper(0, 0), 0);
    is("planned", x.count(7), 0);
    is("where they were", x.begins(2, 0), 6);
    is("KEPT", x.count(8), 9);
  }

  static void p16_undo_a_take() {
    ClashDay x = Due.of("day 9 1;taken 29 4");
    x.take(29, 9);
    is("undo", x.undo(), 0);
    is("free", x.free(29), 5);
  }

  static void p16_undo_20_acts_and_no_21st() {
    for (int acts = 19; acts <= 22; acts++) {
      ClashDay x = Due.of("day 9 1");
      for (int i = 0; i < acts; i++) x.take(i, 1);
      int most = Math.min(acts, 20);
      is("count 10", x.count(10), most);
      for (int i = most - 1; i >= 0; i--) {
        is("undo", x.undo(), i);
        int stay = acts - most + i;
        for (int s = 0; s < 30; s++) is("the last first, slot " + s, x.free(s), s < stay ? 8 : 9);
      }
      is("no more", x.undo(), -1);
      for (int i = 0; i < acts - most; i++) is("the oldest stays", x.free(i), 8);
    }
  }

  static void p16_undo_as_behind_the_fifth_of_25() {
    ClashDay x = Edge.full();
    for (int i = 19; i >= 0; i--) is("undo", x.undo(), i);
    is("TURN", x.count(6), 1);
    is("who waits", x.count(7), 6);
    is("slot 29", x.free(29), 2);
    is("slot 7", x.free(7), 0);
  }

  static void p16_undo_then_act_again() {
    ClashDay x = Due.of("day 9 1");
    for (int i = 0; i < 20; i++) x.take(i, 1);
    for (int i = 0; i < 5; i++) x.undo();
    is("count 10", x.count(10), 15);
    for (int i = 0; i < 6; i++) x.take(i, 2);
    is("count 10", x.count(10), 20);
    for (int i = 19; i >= 0; i--) is("undo", x.undo(), i);
    is("the first act stays", x.free(0), 8);
    is("the second one is undone", x.free(1), 9);
  }

  static void p16_undo_is_no_act() {
    ClashDay x = Due.of("day 9 1");
    x.take(0, 1);
    is("undo", x.undo(), 0);
    is("not undone itself", x.undo(), -1);
    is("free", x.free(0), 9);
  }

  static void p16_undo_what_is_no_act_stays() {
    ClashDay x = Edge.busy();
    x.turn();
    x.force(0);
    x.seed(99);
    x.note(5, 5, 5);
    Due.rule(x, "plan 2");
    x.image(0);
    Due.tell(x, "abc");
    is("undo", x.undo(), 3);
    is("rule in force", x.count(5), 0);
    is("x", x.count(11), 99);
    is("notes", x.count(9), 3);
    is("rules", x.count(4), 4);
    is("tape", x.count(12), 3);
    is("image", x.back(0), 2);
  }
}
