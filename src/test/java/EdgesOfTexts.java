/** Edges of promises 1 to 6: a new object, the tape, the DAY, the RULES and their FAULTS (part I of the terms). */
final class EdgesOfTexts {
  private static final int MIN = Edge.MIN, MAX = Edge.MAX;

  private static void is(String what, int got, int want) { Edge.is(what, got, want); }

  private static int fault(int place, int kind) { return -2 - (1 + 8 * place + kind); }

  private static void dayFault(String text, int place, int kind) {
    is("day \"" + text + "\"", Due.day(new ClashDay(), text), fault(place, kind));
  }

  private static ClashDay day(String text, int candidates) {
    ClashDay x = new ClashDay();
    is("day \"" + text + "\"", Due.day(x, text), candidates);
    return x;
  }

  private static void ruleFault(String text, int place, int kind) {
    is("rule \"" + text + "\"", Due.rule(new ClashDay(), text), fault(place, kind));
  }

  private static void rule(String text) {
    is("rule \"" + text + "\"", Due.rule(new ClashDay(), text), 0);
  }

  /** 400 bytes: the text's end is at their end. */
  private static String padded(String head, String tail) {
    return head + " ".repeat(400 - head.length() - tail.length()) + tail;
  }

  // ---- promise 1: a new object

  static void p01_new_has_no_day() {
    ClashDay x = new ClashDay();
    for (int w : new int[] {0, 1, 2, 3, 6, 7, 8, 9, 10}) is("count " + w, x.count(w), 0);
    is("paper", x.paper(0, 0), -1);
    is("candidate", x.candidate(0, 0), -1);
    is("free", x.free(0), -1);
    is("turn", x.turn(), -1);
    is("take", x.take(0, 1), -1);
    is("undo", x.undo(), -1);
  }

  static void p01_new_has_no_rules() {
    ClashDay x = new ClashDay();
    is("count 4", x.count(4), 0);
    is("force", x.force(0), -2);
  }

  static void p01_new_has_none_in_force() {
    is("count 5", new ClashDay().count(5), -1);
    is("which was", new ClashDay().force(-1), -1);
  }

  static void p01_new_tape_is_empty_and_x_is_0() {
    is("count 12", new ClashDay().count(12), 0);
    is("count 11", new ClashDay().count(11), 0);
  }

  static void p01_new_images_were_never_made() {
    for (int k = 0; k < 4; k++) is("back " + k, new ClashDay().back(k), -1);
  }

  static void p01_new_objects_share_nothing() {
    ClashDay x = Edge.full(), y = new ClashDay();
    is("tape", y.count(12), 0);
    is("rules", y.count(4), 0);
    is("day", y.count(0), 0);
    is("image", y.back(0), -1);
    is("the other one", x.count(12), 400);
  }

  // ---- promise 2: feed

  static void p02_feed_of_each_number_the_highest_byte_first() {
    ClashDay x = new ClashDay();
    // "day 9 20;paper 15 6 "
    is("feed", x.feed(0x64617920, 0x39203230, 0x3b706170, 0x65722031, 0x35203620), 20);
    is("day", x.day(), 0);
    is("SEATS", x.count(0), 9);
    is("HOURS", x.count(1), 20);
    is("START", x.paper(0, 0), 15);
    is("LENGTH", x.paper(0, 1), 6);
  }

  static void p02_feed_numbers_below_0_are_bytes_too() {
    ClashDay x = new ClashDay();
    is("feed", x.feed(-1, MIN, MAX, -1, -1), 20);
    is("byte 255 can't stand", x.day(), fault(0, 0));
    is("feed", x.feed(0x64617920, 0x31203120, 0xa0202020, 0, 0), 20);
    is("byte 160 is no blank", x.day(), fault(8, 0));
  }

  static void p02_feed_bytes_of_0_are_bytes_too() {
    ClashDay x = new ClashDay();
    is("feed", x.feed(0x64617920, 0x31203100, 0, 0, 0), 20);
    is("byte 0 can't stand", x.day(), fault(7, 0));
  }

  static void p02_feed_answers_how_many_up_to_400() {
    ClashDay x = new ClashDay();
    for (int i = 20; i <= 400; i += 20) {
      is("feed", x.feed(1, 2, 3, 4, 5), i);
      is("count 12", x.count(12), i);
    }
  }

  static void p02_feed_at_380_is_the_last_that_fits() {
    ClashDay x = new ClashDay();
    for (int i = 0; i < 20; i++) x.feed(0, 0, 0, 0, 0);
    x.end(380);
    is("feed at 380", x.feed(0, 0, 0, 0, 0), 400);
    x.end(379);
    is("feed at 379", x.feed(0, 0, 0, 0, 0), 399);
  }

  static void p02_feed_at_381_is_the_first_that_is_refused() {
    for (int size = 381; size <= 400; size++) {
      ClashDay x = new ClashDay();
      for (int i = 0; i < 20; i++) x.feed(0, 0, 0, 0, 0);
      x.end(size);
      is("feed at " + size, x.feed(1, 1, 1, 1, 1), -1);
      is("count 12", x.count(12), size);
      is("no byte came", x.end(size + 1), -1);
    }
  }

  static void p02_feed_refused_changes_nothing() {
    Edge.same(Edge::full, "feed", x -> x.feed(0x64617920, 0x31203120, 0x20202020, 0x20202020, 0x20202020), -1);
  }

  static void p02_feed_comes_behind_a_tape_that_was_cut() {
    ClashDay x = new ClashDay();
    x.feed(0x64617978, 0x78787878, 0, 0, 0);
    x.end(3);
    is("feed", x.feed(0x20342035, 0, 0, 0, 0), 23);
    x.end(7);
    is("day", x.day(), 0);
    is("SEATS", x.count(0), 4);
    is("HOURS", x.count(1), 5);
  }

  static void p02_feed_behind_day_and_rule_begins_anew() {
    ClashDay x = Due.of("day 1 1");
    is("behind a day", x.feed(0, 0, 0, 0, 0), 20);
    Due.rule(x, "plan 1");
    is("behind a rule", x.feed(0, 0, 0, 0, 0), 20);
  }

  // ---- promise 3: end

  static void p03_end_of_all_bytes_keeps_them() {
    ClashDay x = new ClashDay();
    is("end 0 of an empty tape", x.end(0), 0);
    for (int i = 20; i <= 400; i += 20) {
      x.feed(0, 0, 0, 0, 0);
      is("end", x.end(i), i);
    }
    is("count 12", x.count(12), 400);
  }

  static void p03_end_keeps_the_first_bytes_alone() {
    ClashDay x = new ClashDay();
    Due.tell(x, "day 1 12");
    is("end", x.end(7), 7);
    is("count 12", x.count(12), 7);
    is("what was cut is gone", x.end(8), -1);
    is("day", x.day(), 0);
    is("HOURS", x.count(1), 1);
  }

  static void p03_end_0_empties() {
    ClashDay x = new ClashDay();
    Due.tell(x, "day 1 1");
    is("end 0", x.end(0), 0);
    is("count 12", x.count(12), 0);
    is("day", x.day(), fault(0, 0));
  }

  static void p03_end_beyond_the_tape_is_refused() {
    is("of an empty tape", new ClashDay().end(1), -1);
    Edge.same(Edge::noDay, "end 7 of 6", x -> x.end(7), -1);
    Edge.same(Edge::full, "end 401", x -> x.end(401), -1);
    Edge.sameInAll("end MAX", x -> x.end(MAX), -1);
  }

  static void p03_end_below_0_is_refused() {
    Edge.sameInAll("end -1", x -> x.end(-1), -1);
    Edge.sameInAll("end MIN", x -> x.end(MIN), -1);
  }

  // ---- promise 4: day

  static void p04_day_tape_is_empty_then() {
    ClashDay x = day("day 1 1", 0);
    is("behind a day", x.count(12), 0);
    is("an empty tape is a fault", x.day(), fault(0, 0));
    Due.day(x, "day 0 1");
    is("behind a fault", x.count(12), 0);
  }

  static void p04_day_fault_all_else_stays() {
    for (String text : new String[] {"", "day", "day 1 1;day 1 1", "day 9 9;paper 1 1;candidate 1 1 1;taken 30 1"}) {
      Edge.same(() -> {
        ClashDay x = Edge.full();
        x.end(0);
        return x;
      }, "day \"" + text + "\"", x -> {
        int answer = Due.day(x, text);
        return answer < -2 ? 1 : 0;
      }, 1);
    }
  }

  static void p04_day_nothing_is_left_of_a_text_with_a_fault() {
    ClashDay x = new ClashDay();
    is("a fault", Due.day(x, "day 9 9;taken 0 9;taken 5 9;taken 29 9;paper 1 1;candidate 1 1 1;"), fault(65, 0));
    is("no day", x.free(5), -1);
    is("day", Due.day(x, "day 8 8"), 0);
    is("no papers", x.count(2), 0);
    for (int s = 0; s < 30; s++) is("none taken", x.free(s), 8);
  }

  static void p04_day_nothing_is_left_of_the_text_ahead() {
    ClashDay x = Due.of("day 9 9;taken 0 9;taken 29 9;paper 1 1;candidate 1 1 1");
    is("day", Due.day(x, "day 8 8;paper 2 2;candidate 1 2 2"), 1);
    for (int s = 0; s < 30; s++) is("none taken", x.free(s), 8);
    is("papers", x.count(2), 1);
    is("START", x.paper(0, 0), 2);
  }

  static void p04_day_takes_the_place_of_the_one_there_was() {
    ClashDay x = Edge.full();
    is("day", Due.day(x, "day 3 4"), 0);
    int[] counts = {3, 4, 0, 0, 6, 1, 0, 0, 0, 0, 0, 12345, 0};
    for (int w = 0; w < 13; w++) is("count " + w, x.count(w), counts[w]);
    is("no paper", x.paper(0, 0), -1);
    is("no candidate", x.candidate(0, 0), -1);
    for (int s = 0; s < 30; s++) is("none taken", x.free(s), 3);
  }

  static void p04_day_no_notes_then() {
    ClashDay x = Edge.busy();
    x.note(0, 0, 9);
    is("no rule is so", x.ruled(0), 0);
    x.day();
    is("count 9", x.count(9), 0);
    is("all rules are so", x.ruled(0), 4);
    for (int i = 1; i <= 10; i++) is("note", x.note(0, 0, 1), i);
  }

  static void p04_day_nothing_to_be_undone_then() {
    ClashDay x = Edge.busy();
    is("three acts", x.count(10), 3);
    x.day();
    is("count 10", x.count(10), 0);
    is("undo", x.undo(), -1);
  }

  static void p04_day_rule_in_force_and_x_stay() {
    ClashDay x = Edge.busy();
    x.day();
    is("count 5", x.count(5), 1);
    is("count 11", x.count(11), 12345);
  }

  static void p04_day_images_stay() {
    ClashDay x = Edge.busy();
    x.day();
    is("back", x.back(2), 1);
    is("SEATS", x.count(0), 2);
  }

  static void p04_day_it_is_turn_0_and_all_wait() {
    ClashDay x = Edge.busy();
    is("day", x.day(), 1);
    is("TURN", x.count(6), 0);
    is("who waits", x.count(7), 1);
    is("waits", x.candidate(0, 3), 1);
    is("KEPT", x.count(8), 0);
  }

  static void p04_day_of_400_bytes() {
    ClashDay x = day(padded("day 9 20", ";taken 29 4"), 0);
    is("the last byte", x.free(29), 5);
  }

  static void p04_day_fault_in_byte_399() {
    dayFault(padded("day 9 20", "x"), 399, 0);
    dayFault(padded("day 9 20;taken 0 1", ";taken 29 x"), 399, 0);
  }

  static void p04_day_end_behind_byte_400() {
    dayFault(padded("day 9 20;", ""), 400, 0);
    dayFault(padded("day 9", ""), 400, 0);
    dayFault(padded("", ""), 400, 0);
  }

  static void p04_day_40_clauses_and_a_41st() {
    String forty = "day 9 1" + ";taken0 1".repeat(38) + ";taken0 2";
    is("of 40 the last", day(forty, 0).free(0), 7);
    dayFault(forty + ";taken0 3", forty.length() + 1, 4);
    dayFault(forty + " ;  taken 0 3", forty.length() + 4, 4);
  }

  static void p04_day_41st_clause_that_is_none_is_fault_0() {
    String forty = "day 9 1" + ";taken0 1".repeat(39);
    dayFault(forty + ";takes0 3", forty.length() + 1, 0);
    dayFault(forty + ";", forty.length() + 1, 0);
    dayFault(forty + ";7", forty.length() + 1, 0);
  }

  static void p04_day_seats_1_to_9() {
    for (int n = 1; n <= 9; n++) is("SEATS", day("day " + n + " 1", 0).count(0), n);
    dayFault("day 0 1", 4, 1);
    dayFault("day 10 1", 4, 1);
    dayFault("day 99999 1", 4, 1);
  }

  static void p04_day_hours_1_to_20() {
    for (int n = 1; n <= 20; n++) is("HOURS", day("day 1 " + n, 0).count(1), n);
    dayFault("day 1 0", 6, 1);
    dayFault("day 1 21", 6, 1);
    dayFault("day 1 99999", 6, 1);
  }

  static void p04_day_clause_once() {
    dayFault("day 1 1;day 1 1", 8, 4);
    dayFault("day 1 1;paper 0 1; day", 19, 4);
  }

  static void p04_day_clause_is_the_first() {
    dayFault("paper 0 1;day 1 1", 0, 4);
    dayFault(" candidate 1 0 0;day 1 1", 1, 4);
    dayFault("  taken 0 0;day 1 1", 2, 4);
  }

  static void p04_day_start_0_to_15() {
    for (int n = 0; n <= 15; n++) is("START", day("day 1 1;paper " + n + " 1", 0).paper(0, 0), n);
    dayFault("day 1 1;paper 16 1", 14, 1);
  }

  static void p04_day_length_1_to_6() {
    for (int n = 1; n <= 6; n++) is("LENGTH", day("day 1 1;paper 0 " + n, 0).paper(0, 1), n);
    dayFault("day 1 1;paper 0 0", 16, 1);
    dayFault("day 1 1;paper 0 7", 16, 1);
  }

  static void p04_day_sits_one_at_least_of_papers_that_were_told() {
    for (int papers = 1; papers <= 5; papers++) {
      String told = "day 1 1" + ";paper 0 1".repeat(papers) + ";candidate ";
      int all = (1 << papers) - 1;
      is("SITS 1", day(told + "1 0 0", 1).candidate(0, 0), 1);
      is("SITS all", day(told + all + " 0 0", 1).candidate(0, 0), all);
      dayFault(told + "0 0 0", told.length(), 1);
      dayFault(told + (all + 1) + " 0 0", told.length(), 1);
    }
  }

  static void p04_day_sits_none_where_no_paper_was_told() {
    dayFault("day 1 1;candidate 0 0 0", 18, 1);
    dayFault("day 1 1;candidate 1 0 0", 18, 1);
  }

  static void p04_day_sits_no_paper_that_is_told_later() {
    dayFault("day 1 1;paper 0 1;candidate 2 0 0;paper 0 1", 28, 1);
    day("day 1 1;paper 0 1;candidate 1 0 0;paper 0 1;candidate 2 0 0", 2);
  }

  static void p04_day_extra_0_to_100() {
    for (int n : new int[] {0, 1, 99, 100})
      is("EXTRA", day("day 1 1;paper 0 1;candidate 1 " + n + " 0", 1).candidate(0, 1), n);
    dayFault("day 1 1;paper 0 1;candidate 1 101 0", 30, 1);
  }

  static void p04_day_rest_0_to_3() {
    for (int n = 0; n <= 3; n++) is("REST", day("day 1 1;paper 0 1;candidate 1 0 " + n, 1).candidate(0, 2), n);
    dayFault("day 1 1;paper 0 1;candidate 1 0 4", 32, 1);
  }

  static void p04_day_taken_slots_0_to_29() {
    for (int s = 0; s < 30; s++) {
      ClashDay x = day("day 9 1;taken " + s + " 1", 0);
      for (int i = 0; i < 30; i++) is("free", x.free(i), i == s ? 8 : 9);
    }
    dayFault("day 1 1;taken 30 0", 14, 1);
  }

  static void p04_day_taken_0_to_9_seats() {
    for (int n = 0; n <= 9; n++) is("free", day("day 9 1;taken 0 " + n, 0).free(0), 9 - n);
    dayFault("day 9 1;taken 0 10", 16, 1);
  }

  static void p04_day_taken_more_than_the_seats() {
    for (int n = 1; n <= 9; n++) is("free", day("day 1 1;taken 0 " + n, 0).free(0), 0);
  }

  static void p04_day_taken_of_one_slot_the_last_told() {
    is("free", day("day 9 1;taken 29 9;taken 28 1;taken 29 3", 0).free(29), 6);
    is("free", day("day 9 1;taken 29 9;taken 29 0", 0).free(29), 9);
  }

  static void p04_day_five_papers_and_a_sixth() {
    String five = "day 1 1;paper 0 1;paper 1 2;paper 2 3;paper 3 4;paper 4 5";
    ClashDay x = day(five, 0);
    for (int p = 0; p < 5; p++) is("in the order told", x.paper(p, 0), p);
    for (int p = 0; p < 5; p++) is("in the order told", x.paper(p, 1), p + 1);
    dayFault(five + "; paper 5 6", five.length() + 2, 4);
  }

  static void p04_day_six_candidates_and_a_seventh() {
    StringBuilder six = new StringBuilder("day 1 1;paper 0 1;paper 0 1;paper 0 1");
    for (int c = 1; c <= 6; c++) six.append(";candidate ").append(c).append(" ").append(c).append(" 0");
    ClashDay x = day(six.toString(), 6);
    for (int c = 0; c < 6; c++) is("in the order told", x.candidate(c, 0), c + 1);
    for (int c = 0; c < 6; c++) is("in the order told", x.candidate(c, 1), c + 1);
    dayFault(six + "; candidate 7 7 0", six.length() + 2, 4);
  }

  static void p04_day_numbers_of_1_to_5_digits() {
    is("SEATS", day("day 00009 00020", 0).count(0), 9);
    dayFault("day 000009 1", 4, 1);
    dayFault("day 1 000001", 6, 1);
    dayFault("day 1 1;paper 0 000001", 16, 1);
    dayFault("day 4294967297 1", 4, 1);
  }

  static void p04_day_numbers_as_far_as_digits_go_on() {
    dayFault("day 11", 4, 1);
    dayFault("day 1 1;paper 01", 16, 0);
    dayFault("day 1 1;taken 0123", 14, 1);
    dayFault("day 1 1 1", 8, 0);
    dayFault("day 1 1;paper 1 1 1", 18, 0);
  }

  static void p04_day_a_number_that_is_missing() {
    dayFault("day", 3, 0);
    dayFault("day;", 3, 0);
    dayFault("day 1", 5, 0);
    dayFault("day 1 ;paper 0 1", 6, 0);
    dayFault("day 1 day 1", 6, 0);
    dayFault("day 1 -1", 6, 0);
    dayFault("day +1 1", 4, 0);
    dayFault("day 1 1;candidate", 17, 0);
    dayFault("day 1 1;paper 0 1;candidate 1 0", 31, 0);
    dayFault("day 1 1;taken 0", 15, 0);
  }

  static void p04_day_blanks_as_one_likes() {
    ClashDay x = day("   day9   20  ;  paper15 6;candidate1 100 3   ;taken   0 1  ", 1);
    is("SEATS", x.count(0), 9);
    is("REST", x.candidate(0, 2), 3);
    is("free", x.free(0), 8);
  }

  static void p04_day_a_blank_is_byte_32_alone() {
    for (int sign : new int[] {0, 9, 10, 13, 31, 33, 128, 160, 255}) dayFault("day" + (char) sign + "1 1", 3, 0);
  }

  static void p04_day_words_as_far_as_small_letters_go_on() {
    dayFault("days 1 1", 0, 0);
    dayFault("da 1 1", 0, 0);
    dayFault("da y 1 1", 0, 0);
    dayFault("Day 1 1", 0, 0);
    dayFault("daY 1 1", 0, 0);
    dayFault("day 1 1;dayz 1", 8, 0);
    dayFault("day 1 1;takenx", 8, 0);
    for (String word : new String[] {"day", "paper", "candidate", "taken"}) {
      dayFault("z" + word.substring(1), 0, 0);
      dayFault(word.substring(1), 0, 0);
      dayFault("day 1 1;" + word.substring(0, word.length() - 1) + "z 1 1", 8, 0);
    }
    dayFault("day`1 1", 3, 0);
    dayFault("day{1 1", 3, 0);
    dayFault("day 1 1/", 7, 0);
    dayFault("day 1 1:", 7, 0);
  }

  static void p04_day_words_of_rules_cant_stand() {
    for (String word : new String[] {"plan", "if", "or", "and", "not", "papers", "extra", "rest", "nights", "kept",
        "finish", "work", "busy", "waiting", "turn"}) {
      dayFault(word, 0, 0);
      dayFault("day 1 1;" + word + " 1", 8, 0);
    }
  }

  static void p04_day_an_empty_clause_cant_stand() {
    dayFault(";day 1 1", 0, 0);
    dayFault("day 1 1;", 8, 0);
    dayFault("day 1 1; ", 9, 0);
    dayFault("day 1 1;;paper 0 1", 8, 0);
  }

  static void p04_day_fault_the_first_along_the_text() {
    dayFault("day 10 x", 4, 1);
    dayFault("day 1 21;paper 99 1", 6, 1);
    dayFault("day 1 1;day x", 8, 4);
    dayFault("day 1 1;x;day 1 1", 8, 0);
    dayFault("paper", 0, 4);
  }

  static void p04_day_fault_of_one_place_the_least() {
    String five = "day 1 1" + ";paper 0 1".repeat(5);
    dayFault(five + ";papers 0 1", five.length() + 1, 0);
    dayFault(five + ";paper", five.length() + 1, 4);
    dayFault("papers 0 1", 0, 0);
  }

  // ---- promise 5: rule

  static void p05_rule_answers_numbers_0_to_5() {
    ClashDay x = new ClashDay();
    for (int i = 0; i < 6; i++) {
      is("rule", Due.rule(x, "plan 1"), i);
      is("count 4", x.count(4), i + 1);
      is("the tape is empty", x.count(12), 0);
    }
  }

  static void p05_rule_seventh_is_refused() {
    for (String text : new String[] {"plan 1", "plan", "", "day 1 1"}) {
      Edge.same(() -> {
        ClashDay x = Edge.full();
        Due.tell(x, text);
        return x;
      }, "rule \"" + text + "\"", x -> x.rule(), -1);
    }
  }

  static void p05_rule_fault_the_tape_is_empty_then() {
    ClashDay x = new ClashDay();
    is("rule", Due.rule(x, "plan"), fault(4, 0));
    is("count 12", x.count(12), 0);
  }

  static void p05_rule_fault_is_no_rule() {
    ClashDay x = new ClashDay();
    is("rule", Due.rule(x, "plan 1"), 0);
    is("a fault", Due.rule(x, "plan 2;"), fault(7, 0));
    is("count 4", x.count(4), 1);
    is("force", x.force(1), -2);
    is("the next", Due.rule(x, "plan 3"), 1);
  }

  static void p05_rule_fault_all_else_stays() {
    Edge.same(() -> {
      ClashDay x = Edge.busy();
      x.end(0);
      return x;
    }, "rule", x -> Due.rule(x, "plan 1 if [turn = 1"), fault(19, 0));
  }

  static void p05_rule_each_text_is_counted_anew() {
    ClashDay x = new ClashDay();
    String sixty = "plan 1" + "+1".repeat(59), twelve = "plan 1" + ";plan 1".repeat(11);
    is("60 values", Due.rule(x, sixty), 0);
    is("60 values again", Due.rule(x, sixty), 1);
    is("a fault", Due.rule(x, sixty + "+1"), fault(sixty.length() + 1, 3));
    is("60 values again", Due.rule(x, sixty), 2);
    is("12 clauses", Due.rule(x, twelve), 3);
    is("a fault", Due.rule(x, twelve + ";plan 1"), fault(twelve.length() + 1, 4));
    is("12 clauses again", Due.rule(x, twelve), 4);
  }

  static void p05_rule_nothing_is_left_of_a_text_with_a_fault() {
    ClashDay x = Due.of("day 1 20;paper 0 1;candidate 1 0 0;candidate 1 0 0");
    is("a fault", Due.rule(x, "plan 9 if candidate=1;plan 7;"), fault(29, 0));
    is("rule", Due.rule(x, "plan 1"), 0);
    x.force(0);
    is("of two alike the least", x.when(0), 0);
    is("a fault", Due.rule(x, "plan 1 if not 1=1;plan"), fault(22, 0));
    is("rule", Due.rule(x, "plan 1 if 1=1"), 1);
    x.force(1);
    is("the test holds", x.when(0), 0);
    is("a fault", Due.rule(x, "plan 0;"), fault(7, 0));
    is("rule", Due.rule(x, "plan 1"), 2);
    x.force(2);
    is("above 0", x.when(0), 0);
  }

  static void p05_rule_is_not_in_force_by_itself() {
    ClashDay x = new ClashDay();
    Due.rule(x, "plan 1");
    is("count 5", x.count(5), -1);
  }

  static void p05_rule_stays_with_another_day() {
    ClashDay x = Edge.busy();
    x.day();
    is("count 4", x.count(4), 3);
  }

  static void p05_rule_of_400_bytes() {
    ClashDay x = Due.of("day 1 20;paper 0 1;candidate 1 0 0");
    is("rule", Due.rule(x, padded("plan 1 if", "turn = 12")), 0);
    x.force(0);
    is("the last byte", x.when(0), 12);
  }

  static void p05_rule_fault_at_the_end_of_400_bytes() {
    ruleFault(padded("plan 1", "?"), 399, 0);
    ruleFault(padded("plan 1;", ""), 400, 0);
    ruleFault(padded("", ""), 400, 0);
  }

  static void p05_rule_12_clauses_and_a_13th() {
    String twelve = "plan 1" + ";plan 1".repeat(11);
    rule(twelve);
    ruleFault(twelve + ";plan 1", twelve.length() + 1, 4);
    ruleFault(twelve + " ; plan", twelve.length() + 3, 4);
  }

  static void p05_rule_13th_clause_that_is_none_is_fault_0() {
    String twelve = "plan 1" + ";plan 1".repeat(11);
    ruleFault(twelve + ";plans 1", twelve.length() + 1, 0);
    ruleFault(twelve + ";", twelve.length() + 1, 0);
  }

  static void p05_rule_numbers_of_1_to_5_digits() {
    for (String n : new String[] {"0", "9", "00000", "99999"}) rule("plan " + n);
    ruleFault("plan 100000", 5, 1);
    ruleFault("plan 000000", 5, 1);
    ruleFault("plan 4294967296", 5, 1);
    ruleFault("plan 1 if 1 = 123456", 14, 1);
    ruleFault("plan 1 + 999999", 9, 1);
  }

  static void p05_rule_each_word_of_a_candidate_stands() {
    for (String word : new String[] {"candidate", "papers", "extra", "rest", "nights", "kept", "finish", "work", "busy",
        "waiting", "turn"}) {
      rule("plan " + word);
      rule("plan 1 if " + word + " = " + word);
      ruleFault("plan " + word + "s", 5, 0);
      ruleFault("plan " + word.substring(0, word.length() - 1), 5, 0);
      ruleFault("plan " + word.substring(1), 5, 0);
      ruleFault("plan z" + word.substring(1), 5, 0);
    }
  }

  static void p05_rule_other_words_cant_stand() {
    for (String word : new String[] {"day", "paper", "taken", "plan", "if", "or", "and", "not", "x"}) {
      ruleFault("plan " + word, 5, 0);
      ruleFault("plan 1 " + (word.equals("if") ? "iff" : word), 7, 0);
    }
    ruleFault("day 1 1", 0, 0);
    ruleFault("Plan 1", 0, 0);
    ruleFault("planx 1", 0, 0);
    ruleFault("pla 1", 0, 0);
  }

  static void p05_rule_each_sign_of_a_fact() {
    for (String sign : new String[] {"<", "<=", "=", ">=", ">"}) rule("plan 1 if 1" + sign + "2");
    ruleFault("plan 1 if 1 < = 2", 14, 0);
    ruleFault("plan 1 if 1 > = 2", 14, 0);
    ruleFault("plan 1 if 1 =< 2", 13, 0);
    ruleFault("plan 1 if 1 == 2", 13, 0);
    ruleFault("plan 1 if 1 <> 2", 13, 0);
    ruleFault("plan 1 if 1 ! 2", 12, 0);
    ruleFault("plan 1 if 1 + 2", 15, 0);
    ruleFault("plan 1 if 1", 11, 0);
    ruleFault("plan 1 if 1 <=", 14, 0);
    ruleFault("plan 1 if < 1", 10, 0);
    ruleFault("plan 1 if 1 < 2 < 3", 16, 0);
    for (String word : new String[] {"kept", "and", "or", "not", "if", "plan", "is"})
      ruleFault("plan 1 if 1 " + word + " 2", 12, 0);
    ruleFault("plan 1 if 1 2", 12, 0);
  }

  static void p05_rule_each_sign_of_a_sum() {
    for (char sign : "+-*/%".toCharArray()) {
      rule("plan 1" + sign + "1");
      ruleFault("plan 1" + sign, 7, 0);
      ruleFault("plan " + sign + "1", 5, 0);
      ruleFault("plan 1" + sign + sign + "1", 7, 0);
    }
    ruleFault("plan 1^1", 6, 0);
    ruleFault("plan 1 1", 7, 0);
    ruleFault("plan", 4, 0);
    ruleFault("plan ", 5, 0);
    ruleFault("plan ;", 5, 0);
  }

  static void p05_rule_if_and_or_not() {
    rule("plan 1 if not 1=1 and not 1=1 or not 1=1");
    ruleFault("plan 1 if", 9, 0);
    ruleFault("plan 1 if 1=1 and", 17, 0);
    ruleFault("plan 1 if 1=1 or", 16, 0);
    ruleFault("plan 1 if not", 13, 0);
    ruleFault("plan 1 if and 1=1", 10, 0);
    ruleFault("plan 1 if 1=1 or or 1=1", 17, 0);
    ruleFault("plan 1 if 1=1 not 1=1", 14, 0);
    ruleFault("plan 1 if 1=1 if 1=1", 14, 0);
    ruleFault("plan 1 and 1=1", 7, 0);
  }

  static void p05_rule_brackets() {
    rule("plan 1 if [1=1]");
    rule("plan 1 if [[1=1] or [1=2 and [1=3]]]");
    ruleFault("plan 1 if []", 11, 0);
    ruleFault("plan 1 if [1=1", 14, 0);
    ruleFault("plan 1 if 1=1]", 13, 0);
    ruleFault("plan 1 if [1=1]]", 15, 0);
    ruleFault("plan 1 if [1]=1", 12, 0);
    ruleFault("plan [1]", 5, 0);
    ruleFault("plan 1 if (1=1)", 10, 0);
    ruleFault("plan 1 if [1=1;plan 1", 14, 0);
  }

  static void p05_rule_brackets_10_deep_and_an_11th() {
    rule("plan 1 if " + "[".repeat(10) + "1=1" + "]".repeat(10));
    ruleFault("plan 1 if " + "[".repeat(11) + "1=1" + "]".repeat(11), 20, 2);
    ruleFault("plan 1 if " + "[".repeat(10) + "  [", 22, 2);
  }

  static void p05_rule_nots_10_deep_and_an_11th() {
    rule("plan 1 if " + "not ".repeat(10) + "1=1");
    ruleFault("plan 1 if " + "not ".repeat(11) + "1=1", 50, 2);
    ruleFault("plan 1 if " + "not ".repeat(10) + "not", 50, 2);
  }

  static void p05_rule_brackets_and_nots_lie_within_one_another() {
    rule("plan 1 if " + "not [".repeat(5) + "1=1" + "]".repeat(5));
    ruleFault("plan 1 if " + "not [".repeat(5) + "not 1=1" + "]".repeat(5), 35, 2);
    ruleFault("plan 1 if " + "not [".repeat(5) + "[1=1]" + "]".repeat(5), 35, 2);
    ruleFault("plan 1 if " + "[not ".repeat(5) + "[1=1]" + "]".repeat(5), 35, 2);
  }

  static void p05_rule_what_is_closed_again_lies_not_within() {
    String ten = "[".repeat(10) + "1=1" + "]".repeat(10);
    rule("plan 1 if " + ten + " and " + ten + " or " + "not ".repeat(10) + "1=1;plan 1 if " + ten);
    ruleFault("plan 1 if [" + "[".repeat(9) + "1=1" + "]".repeat(9) + " and " + ten, 46, 2);
  }

  static void p05_rule_60_values_and_a_61st() {
    String sixty = "plan 1" + "+1".repeat(59);
    rule(sixty);
    ruleFault(sixty + "+1", sixty.length() + 1, 3);
    ruleFault(sixty + "+  turn", sixty.length() + 3, 3);
    ruleFault(sixty + " if 1=1", sixty.length() + 4, 3);
    ruleFault(sixty + ";plan 1", sixty.length() + 6, 3);
  }

  static void p05_rule_values_and_facts_are_counted_together() {
    // one value, and 19 facts of two values each: 58
    String nineteen = "plan turn if 1=1" + " or 1=1".repeat(18);
    rule(nineteen + ";plan 1;plan 1");
    ruleFault(nineteen + ";plan 1;plan 1;plan 1", nineteen.length() + 20, 3);
    // the 59th and 60th value, and no room for the sign
    ruleFault(nineteen + " or 1+1 =1", nineteen.length() + 8, 3);
    // the 59th value, the sign is the 60th, the value behind it the 61st
    ruleFault(nineteen + " or 1= 1", nineteen.length() + 7, 3);
    // the 59th, 60th and 61st value
    ruleFault(nineteen + " or 1+1+1=1", nineteen.length() + 8, 3);
  }

  static void p05_rule_60_of_them_and_the_last_is_a_value_of_a_fact() {
    rule("plan 1" + "+1".repeat(56) + " if 1=1");
    ruleFault("plan 1" + "+1".repeat(57) + " if 1= 1", 127, 3);
  }

  static void p05_rule_a_fact_too_many_is_at_its_sign() {
    String fiftyNine = "plan 1" + "+1".repeat(58);
    ruleFault(fiftyNine + " if 1  <= 1", fiftyNine.length() + 7, 3);
    ruleFault(fiftyNine + " if 1 ?", fiftyNine.length() + 6, 0);
  }

  static void p05_rule_brackets_and_nots_are_not_counted() {
    rule("plan 1" + "+1".repeat(56) + " if not [not [1=1]]");
  }

  static void p05_rule_fault_of_one_place_the_least() {
    String sixty = "plan 1" + "+1".repeat(59);
    ruleFault(sixty + "+123456", sixty.length() + 1, 1);
    ruleFault(sixty + "+x", sixty.length() + 1, 0);
    ruleFault(sixty + "+", sixty.length() + 1, 0);
  }

  static void p05_rule_fault_the_first_along_the_text() {
    ruleFault("plan 123456 ?", 5, 1);
    ruleFault("plan 1 if " + "not ".repeat(11) + "123456=1", 50, 2);
    ruleFault("plan ? if 123456=1", 5, 0);
    ruleFault("plan 1" + "+1".repeat(60) + "+123456", 125, 3);
  }

  static void p05_rule_blanks_as_one_likes() {
    rule("   plan   1   +   2   if   not   [   1   <=   2   ]   and   1=1   ;   plan   1   ");
    rule("plan1+2if not[1<=2]and 1=1or 1=1;plan1");
    for (int sign : new int[] {0, 9, 10, 13, 160}) ruleFault("plan" + (char) sign + "1", 4, 0);
    ruleFault("plan 1 if not1=1 andkept=1", 17, 0);
    ruleFault("plan candidateif 1=1", 5, 0);
  }

  // ---- promise 6: force

  static void p06_force_each_rule_answers_which_was() {
    ClashDay x = Edge.full();
    is("rule 1 was", x.force(0), 1);
    for (int r = 1; r < 6; r++) {
      is("which was", x.force(r), r - 1);
      is("count 5", x.count(5), r);
    }
    is("rule 5 was", x.force(5), 5);
    is("rule 5 was", x.force(-1), 5);
    is("none was", x.force(-1), -1);
  }

  static void p06_force_none_without_rules() {
    is("none was", new ClashDay().force(-1), -1);
  }

  static void p06_force_no_such_rule_is_refused() {
    is("no rules", new ClashDay().force(0), -2);
    Edge.same(Edge::noDay, "force 2 of 2", x -> x.force(2), -2);
    Edge.same(Edge::busy, "force 3 of 3", x -> x.force(3), -2);
    Edge.same(Edge::full, "force 6 of 6", x -> x.force(6), -2);
    Edge.sameInAll("force -2", x -> x.force(-2), -2);
    Edge.sameInAll("force MIN", x -> x.force(MIN), -2);
    Edge.sameInAll("force MAX", x -> x.force(MAX), -2);
  }

  static void p06_force_is_no_act() {
    ClashDay x = Edge.busy();
    x.force(0);
    is("count 10", x.count(10), 3);
    x.undo();
    is("stays", x.count(5), 0);
  }
}
