import java.lang.reflect.Method;
import java.lang.reflect.Modifier;
import java.util.ArrayList;
import java.util.Arrays;
import java.util.List;
import java.util.Random;
import java.util.TreeMap;

/** Runs of drawn calls on the program and on the model: all answers must be alike. */
public final class CompareRuns {
  private static final String[] WORDS = {"candidate", "papers", "extra", "rest", "nights", "kept", "finish", "work",
      "busy", "waiting", "turn"};
  private final Random random;
  private final ClashDay program = new ClashDay();
  private final DocModel model = new DocModel();
  private final List<String> calls = new ArrayList<>();
  private int left = 512;
  static final TreeMap<String, TreeMap<Integer, Integer>> SEEN = new TreeMap<>();

  private CompareRuns(long seed) { random = new Random(seed); }

  private int in(int least, int most) { return least + random.nextInt(most - least + 1); }
  private boolean chance(int percent) { return random.nextInt(100) < percent; }

  /** Mostly a number that can stand, now and then one at or beyond an edge. */
  private int about(int least, int most) {
    if (chance(94)) return in(least, most);
    int[] odd = {least - 1, most + 1, -1, -2, Integer.MIN_VALUE, Integer.MAX_VALUE, 31, 32, 33, 64, 1 << 20};
    return odd[random.nextInt(odd.length)];
  }

  private int call(String name, int... args) throws Exception {
    if (left == 0) return 0;
    left--;
    Class<?>[] types = new Class<?>[args.length];
    Object[] values = new Object[args.length];
    for (int i = 0; i < args.length; i++) { types[i] = int.class; values[i] = args[i]; }
    int want = (Integer) DocModel.class.getMethod(name, types).invoke(model, values);
    int got = (Integer) ClashDay.class.getMethod(name, types).invoke(program, values);
    SEEN.computeIfAbsent(name, n -> new TreeMap<>()).merge(Math.max(-3, Math.min(got, 1)), 1, Integer::sum);
    calls.add(name + Arrays.toString(args) + " " + got);
    if (got != want) throw new IllegalStateException("due is " + want + " at the last of " + calls);
    return got;
  }

  private void tell(String text) throws Exception {
    // an empty tape is fed as it is now and then, so that one that should be empty, and is not, is seen
    if (model.count(12) > 0 || chance(50)) call("end", 0);
    StringBuilder b = new StringBuilder(text.length() > 400 ? text.substring(0, 400) : text);
    int length = b.length();
    while (b.length() % 20 != 0) b.append((char) in(0, 255));
    for (int i = 0; i < b.length(); i += 20) {
      int[] five = new int[5];
      for (int j = 0; j < 20; j++) five[j / 4] = five[j / 4] << 8 | b.charAt(i + j);
      call("feed", five);
    }
    call("end", length);
  }

  private String blanks() { return chance(80) ? " " : " ".repeat(in(1, 3)); }

  private String dayText() {
    StringBuilder b = new StringBuilder("day" + blanks() + (chance(60) ? in(1, 2) : in(1, 9)) + " " + (chance(50) ? in(8, 20) : in(1, 20)));
    int papers = chance(10) ? in(0, 1) : in(2, 5), people = chance(10) ? in(0, 2) : in(2, 6), told = 0;
    int early = chance(40) ? 4 : 15;
    for (int i = 0; i < papers; i++) {
      b.append(";paper ").append(in(0, early)).append(blanks()).append(chance(70) ? in(1, 3) : in(1, 6));
      told++;
      if (chance(10) && people > 0) { b.append(person(told)); people--; }
    }
    for (int i = 0; i < people && told > 0; i++) b.append(person(told));
    for (int i = chance(50) ? 0 : in(0, 6); i > 0; i--)
      b.append(";taken ").append(in(0, 29)).append(" ").append(chance(70) ? in(0, 2) : in(0, 9));
    return b.toString();
  }

  private String person(int told) {
    int sits = chance(40) ? (1 << told) - 1 : in(1, (1 << told) - 1);
    return ";candidate " + sits + " " + (chance(50) ? 0 : in(0, 100)) + " " + in(0, 3);
  }

  private String value() {
    if (chance(60)) return WORDS[random.nextInt(WORDS.length)];
    return String.valueOf(chance(80) ? in(0, 9) : in(0, 99999));
  }

  private String sum() {
    StringBuilder b = new StringBuilder(value());
    while (chance(40)) b.append(chance(50) ? " " : "").append("+-*/%".charAt(in(0, 4))).append(chance(50) ? " " : "").append(value());
    return b.toString();
  }

  private String fact(int deep) {
    if (deep < 12 && chance(12)) return "not " + fact(deep + 1);
    if (deep < 12 && chance(12)) return "[" + test(deep + 1) + "]";
    return sum() + new String[] {"<", "<=", "=", ">=", ">"}[in(0, 4)] + sum();
  }

  private String test(int deep) {
    StringBuilder b = new StringBuilder(fact(deep));
    while (chance(25)) b.append(chance(50) ? " and " : " or ").append(fact(deep));
    return b.toString();
  }

  private String ruleText() {
    StringBuilder b = new StringBuilder();
    do {
      if (b.length() > 0) b.append(";");
      b.append("plan ").append(sum());
      if (chance(60)) b.append(" if ").append(test(0));
    } while (chance(45));
    return b.toString();
  }

  /** Texts at the limits: too deep, too many values, too many clauses. */
  private String longText() {
    switch (in(0, 4)) {
      case 0: return "plan 1 if " + "not ".repeat(in(8, 12)) + "1=1";
      case 1: return "plan 1 if " + "[".repeat(in(8, 12)) + "1=1" + "]".repeat(in(8, 12));
      case 2: return "plan 1" + "+1".repeat(in(55, 62)) + (chance(50) ? " if 1=1" : "");
      case 3: return "plan 1" + ";plan 1".repeat(in(10, 13));
      default: return "day 1 1" + ";taken0 0".repeat(in(37, 41)) + (chance(30) ? ";" : "");
    }
  }

  private String spoilt(String text) {
    StringBuilder b = new StringBuilder(text);
    for (int i = in(1, 3); i > 0 && b.length() > 0; i--) {
      int at = in(0, b.length() - 1);
      switch (in(0, 4)) {
        case 0: b.deleteCharAt(at); break;
        case 1: b.insert(at, "0123456789 ;[]+-<=>abdnopt%".charAt(in(0, 26))); break;
        case 2: b.setCharAt(at, (char) in(0, 255)); break;
        case 3: b.setLength(at); break;
        default: b.insert(at, b.substring(at, Math.min(b.length(), at + in(1, 30))));
      }
    }
    return b.toString();
  }

  private void day(boolean good) throws Exception {
    tell(good || chance(60) ? dayText() : chance(80) ? spoilt(dayText()) : longText());
    call("day");
  }

  private void law(boolean good) throws Exception {
    tell(good || chance(60) ? ruleText() : chance(80) ? spoilt(ruleText()) : longText());
    call("rule");
  }

  private int who() { return about(0, Math.max(0, model.count(3) - 1)); }

  /** Mostly one who waits, or who is planned. */
  private int who(boolean waits) {
    int who = who();
    for (int i = 0; i < 6 && model.candidate(who, 3) != (waits ? 1 : 0); i++) who = who();
    return who;
  }

  private void question() throws Exception {
    switch (in(0, 25)) {
      case 0: call("paper", about(0, Math.max(0, model.count(2) - 1)), about(0, 2)); break;
      case 1: call("candidate", who(), about(0, 3)); break;
      case 2: call("free", about(0, 29)); break;
      case 3: call("time", who(), about(0, 4)); break;
      case 4: call("begins", who(false), about(0, 4)); break;
      case 5: call("could", who(true), about(0, 7)); break;
      case 6: call("orders", who(true)); break;
      case 7: call("clash", who(true), about(0, 1)); break;
      case 8: call("line", who(false), about(0, 29)); break;
      case 9: call("spelt", who(false), about(-1, 15)); break;
      case 10: call("first", who(false), who(false), about(0, 1)); break;
      case 11: call("watchers", about(1, 6), about(0, 1)); break;
      case 12: call("chain", about(1, 6), who(false), about(0, 29)); break;
      case 13: call("apart", who(false), who(false)); break;
      case 14: call("best", about(0, 5)); break;
      case 15: call("harm", about(1, 9), about(0, 1)); break;
      case 16: call("ahead", about(0, 20), about(0, 2)); break;
      case 17: call("when", who(true)); break;
      case 18: call("extras", who(), about(0, 1)); break;
      case 19: call("resting", who()); break;
      case 20: call("rests", who(true), who(true), about(0, 2)); break;
      case 21: call("pence", about(0, 9999), who(chance(20))); break;
      case 22: call("ruled", about(0, 1)); break;
      case 23: call("look", about(0, 9), about(0, 1)); break;
      case 24: call("ill", about(1, 5), about(1, 9), about(0, 100), about(0, 1)); break;
      default: call("count", about(0, 12));
    }
  }

  /** A note that some turn from the begin on really bears out, so that notes part rules, not refuse all. */
  private void truthfulNote() throws Exception {
    int slot = in(0, 29);
    if (chance(50)) {
      call("image", 3);
      int n = in(0, 4);
      for (int i = call("count", 10); i > 0; i--) call("undo");
      int from = call("count", 6);
      if (from == 0) {
        for (int i = 0; i <= n; i++) call("turn");
        int seats = call("free", slot);
        call("back", 3);
        call("note", n, slot, Math.max(0, seats));
      } else {
        call("back", 3);
      }
    } else {
      call("note", about(-1, 9), about(0, 29), about(0, 9));
    }
  }

  private void act() throws Exception {
    switch (in(0, 12)) {
      case 0: case 1: case 2: call("turn"); break;
      case 3: call("plan", who(true)); call("plan", who(true)); break;
      case 4: call("drop", who(false)); break;
      case 5: call("delay", about(0, 4), about(1, 9)); break;
      case 6: call("take", about(0, 29), about(0, 9)); break;
      case 7: call("undo"); break;
      case 8: truthfulNote(); break;
      case 9: call("seed", chance(90) ? random.nextInt() & 0x7fffffff : random.nextInt()); break;
      case 10: call("image", about(0, 3)); break;
      case 11: if (chance(40)) call("back", about(0, 3)); break;
      default: call("force", about(-1, 5));
    }
  }

  private void run() throws Exception {
    if (chance(30)) {
      if (chance(50)) day(false);
      for (int i = 0; i < 30; i++) {
        if (chance(30)) act(); else question();
      }
    }
    day(true);
    for (int i = in(0, 3); i > 0; i--) law(true);
    call("force", in(-1, 2));
    while (left > 0) {
      if (chance(25)) act();
      else if (chance(2)) day(false);
      else if (chance(3)) law(false);
      else question();
    }
  }

  public static void main(String[] args) throws Exception {
    for (Method m : ClashDay.class.getDeclaredMethods())
      if (Modifier.isPublic(m.getModifiers())) DocModel.class.getMethod(m.getName(), m.getParameterTypes());
    int runs = args.length > 0 ? Integer.parseInt(args[0]) : 40;
    long from = args.length > 1 ? Long.parseLong(args[1]) : 1;
    for (long seed = from; seed < from + runs; seed++) {
      try {
        new CompareRuns(seed).run();
      } catch (Exception e) {
        System.out.println("run " + seed + ": " + e + (e.getCause() == null ? "" : " " + e.getCause()));
        if (e.getCause() != null) e.getCause().printStackTrace();
        System.exit(1);
      }
    }
    if (args.length > 2) System.out.println(SEEN);
    System.out.println(runs + " drawn runs answered as the model does");
  }
}
