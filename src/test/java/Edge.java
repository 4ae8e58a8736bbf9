import java.util.function.Supplier;
import java.util.function.ToIntFunction;

/** What the tests of edges share: answers under the name of a test, objects in a known state, all that can be seen. */
final class Edge {
  static final int MIN = Integer.MIN_VALUE, MAX = Integer.MAX_VALUE;
  private static String test = "";
  private static int wrong = 0;
  private static int asked = 0;

  static void begin(String name) { test = name; }
  static int wrong() { return wrong; }
  static int asked() { return asked; }

  static void is(String what, int got, int want) {
    asked++;
    if (got != want) fail(what + " answered " + got + ", due is " + want);
  }

  static void fail(String what) {
    wrong++;
    System.out.println(test + ": " + what);
  }

  /** The call is answered so, and all that can be seen is as it would be without it. */
  static void same(Supplier<ClashDay> state, String what, ToIntFunction<ClashDay> call, int want) {
    is(what, call.applyAsInt(state.get()), want);
    asked++;
    String without = seen(state, x -> 0), with = seen(state, call);
    if (!with.equals(without)) fail(what + " changes something: " + unlike(without, with));
  }

  /** By what is asked nothing changes, whatever is answered. */
  static void quiet(String what, ToIntFunction<ClashDay> call) {
    same(Edge::noDay, what + " (no day)", call, call.applyAsInt(noDay()));
    same(Edge::busy, what, call, call.applyAsInt(busy()));
    same(Edge::full, what + " (full)", call, call.applyAsInt(full()));
  }

  private static String unlike(String one, String other) {
    String[] a = one.split("\n"), b = other.split("\n");
    for (int i = 0; i < a.length; i++) if (!a[i].equals(b[i])) return a[i] + " becomes " + b[i];
    return "?";
  }

  /** All that can be seen behind a call; what looks by acts has an object of its own. */
  private static String seen(Supplier<ClashDay> state, ToIntFunction<ClashDay> call) {
    StringBuilder b = new StringBuilder();
    for (int i = 0; i < 7; i++) {
      ClashDay x = state.get();
      call.applyAsInt(x);
      switch (i) {
        case 0: now(x, b); break;
        case 1: noted(x, b); break;
        case 2: byRules(x, b); break;
        case 3: undone(x, b); break;
        case 4: images(x, b); break;
        case 5: b.append("the tape as a rule ").append(x.rule()).append(" ").append(x.count(4)).append("\n"); break;
        default: b.append("the tape as a day ").append(x.day()).append("\n"); now(x, b);
      }
    }
    return b.toString();
  }

  private static void now(ClashDay x, StringBuilder b) {
    for (int w = 0; w < 13; w++) b.append("count ").append(w).append(" ").append(x.count(w)).append("\n");
    for (int p = 0; p < 5; p++) {
      b.append("paper ").append(p);
      for (int w = 0; w < 3; w++) b.append(" ").append(x.paper(p, w));
      b.append("\n");
    }
    for (int c = 0; c < 6; c++) {
      b.append("candidate ").append(c);
      for (int w = 0; w < 4; w++) b.append(" ").append(x.candidate(c, w));
      for (int p = 0; p < 5; p++) b.append(" ").append(x.time(c, p)).append(" ").append(x.begins(c, p));
      b.append("\n");
    }
    free(x, b);
    b.append("ill ").append(x.ill(5, 9, 50, 0)).append(" ").append(x.ill(5, 9, 50, 1)).append("\n");
  }

  private static void free(ClashDay x, StringBuilder b) {
    b.append("free");
    for (int s = 0; s < 30; s++) b.append(" ").append(x.free(s));
    b.append("\n");
  }

  private static void noted(ClashDay x, StringBuilder b) {
    b.append("ruled ").append(x.ruled(0)).append(" ").append(x.ruled(1)).append("\n");
    for (int r = -1; r < 6; r++) {
      x.force(r);
      b.append("noted, by rule ").append(r);
      for (int c = 0; c < 6; c++) b.append(" ").append(x.extras(c, 0)).append(" ").append(x.resting(c));
      b.append("\n");
    }
    for (int n = 0; n < 10; n++)
      b.append("look ").append(n).append(" ").append(x.look(n, 0)).append(" ").append(x.look(n, 1)).append("\n");
  }

  private static void byRules(ClashDay x, StringBuilder b) {
    for (int r = -1; r < 6; r++) {
      b.append("by rule ").append(x.force(r)).append(" then ").append(r);
      for (int n = 0; n < 7; n++) b.append(" ").append(x.ahead(n, 0)).append(" ").append(x.ahead(n, 2));
      for (int c = 0; c < 6; c++) b.append(" ").append(x.when(c));
      b.append("\n");
    }
  }

  private static void undone(ClashDay x, StringBuilder b) {
    for (int i = 0; i < 21; i++) {
      b.append("undone ").append(x.undo());
      for (int w = 5; w < 9; w++) b.append(" ").append(x.count(w));
      for (int p = 0; p < 3; p++) b.append(" ").append(x.paper(p, 0));
      for (int s = 0; s < 30; s += 4) b.append(" ").append(x.free(s));
      b.append("\n");
    }
  }

  private static void images(ClashDay x, StringBuilder b) {
    for (int k = 0; k < 4; k++) {
      b.append("back ").append(k).append(" ").append(x.back(k));
      for (int w = 0; w < 13; w++) b.append(" ").append(x.count(w));
      free(x, b);
    }
  }

  /** No DAY, but rules, one in force, x, a tape and an image. */
  static ClashDay noDay() {
    ClashDay x = new ClashDay();
    Due.rule(x, "plan 1");
    Due.rule(x, "plan candidate");
    x.force(1);
    x.seed(5);
    x.image(2);
    Due.tell(x, "plan 7");
    return x;
  }

  /**
   * Candidates 0 and 3 are planned (0 in slots 0, 1 and 3 to 5; 3 in 8 to 10), 1 and 2 wait; 3 rules, rule 1 in force;
   * 3 acts, 2 notes, images 1 and 2, a day on the tape.
   */
  static ClashDay busy() {
    ClashDay x = Due.of("day 2 9;paper 0 2;paper 1 3;paper 6 2;"
        + "candidate 3 0 1;candidate 5 50 0;candidate 7 0 2;candidate 4 20 3;taken 7 1;taken 25 2");
    Due.rule(x, "plan 1");
    Due.rule(x, "plan 20 - finish");
    Due.rule(x, "plan 0");
    x.image(1);
    x.force(1);
    x.seed(12345);
    x.turn();
    x.note(0, 0, 1);
    x.note(1, 29, 2);
    x.take(7, 2);
    x.image(2);
    x.plan(3);
    Due.tell(x, "day 7 7;paper 7 6;candidate 1 7 1");
    return x;
  }

  /** As above, with 6 rules, 10 notes, 20 acts and more, a full tape, all images. */
  static ClashDay full() {
    ClashDay x = busy();
    for (int i = 3; i < 6; i++) Due.rule(x, "plan waiting");
    for (int i = 2; i < 10; i++) x.note(9, 29, 2);
    for (int i = 1; i <= 22; i++) x.take(29, i % 2);
    for (int k = 0; k < 4; k++) x.image(k);
    Due.tell(x, "day 8 8;paper 8 5" + " ".repeat(383));
    return x;
  }

  /** In each of these states. */
  static void sameInAll(String what, ToIntFunction<ClashDay> call, int want) {
    same(Edge::noDay, what + " (no day)", call, want);
    same(Edge::busy, what, call, want);
    same(Edge::full, what + " (full)", call, want);
  }

  /** With a DAY. */
  static void sameWithDay(String what, ToIntFunction<ClashDay> call, int want) {
    same(Edge::busy, what, call, want);
    same(Edge::full, what + " (full)", call, want);
  }
}
