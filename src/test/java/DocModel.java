import java.util.ArrayList;
import java.util.Arrays;
import java.util.HashMap;
import java.util.List;
import java.util.Map;
import java.util.TreeMap;
import java.util.function.Function;
import java.util.function.Predicate;

/**
 * The document once more, written another way than the program: slot by slot, with lists and maps,
 * slow and plain, so that both can be compared.
 */
public final class DocModel {
  static final class Fault extends RuntimeException {
    private static final long serialVersionUID = 1;
    final int code;
    Fault(int place, int kind) { code = 1 + 8 * place + kind; }
  }

  static final class Paper {
    int start, length;
    Paper(int start, int length) { this.start = start; this.length = length; }
  }

  static final class Person {
    int sits, extra, rest;
    TreeMap<Integer, Integer> begins = null; // null: they wait
    Person(int sits, int extra, int rest) { this.sits = sits; this.extra = extra; this.rest = rest; }
  }

  static final class World {
    int seats = 0, hours = 0, turn = 0;
    List<Paper> papers = new ArrayList<>();
    List<Person> people = new ArrayList<>();
    Map<Integer, Integer> taken = new HashMap<>();

    World copy() {
      World w = new World();
      w.seats = seats; w.hours = hours; w.turn = turn;
      for (Paper p : papers) w.papers.add(new Paper(p.start, p.length));
      for (Person c : people) {
        Person d = new Person(c.sits, c.extra, c.rest);
        if (c.begins != null) d.begins = new TreeMap<>(c.begins);
        w.people.add(d);
      }
      w.taken.putAll(taken);
      return w;
    }

    int time(Person c, int p) {
      int hundredths = papers.get(p).length * (100 + c.extra);
      int t = 0;
      while (t * 100 < hundredths) t++;
      return t;
    }

    List<Integer> papersOf(Person c) {
      List<Integer> all = new ArrayList<>();
      for (int p = 0; p < papers.size(); p++) if ((c.sits & (1 << p)) != 0) all.add(p);
      return all;
    }

    /** Which paper one sits in a slot by such begins, or -1. */
    int sitting(Person c, Map<Integer, Integer> begins, int slot) {
      for (Map.Entry<Integer, Integer> e : begins.entrySet())
        if (e.getValue() <= slot && slot < e.getValue() + time(c, e.getKey())) return e.getKey();
      return -1;
    }

    boolean keptAt(Person c, Map<Integer, Integer> begins, int slot) {
      if (sitting(c, begins, slot) >= 0) return false;
      for (Map.Entry<Integer, Integer> e : begins.entrySet())
        if (papers.get(e.getKey()).start <= slot && e.getValue() > slot) return true;
      return false;
    }

    int kept(Person c, Map<Integer, Integer> begins) {
      int n = 0;
      for (int s = 0; s < 30; s++) if (keptAt(c, begins, s)) n++;
      return n;
    }

    int free(int slot) {
      int f = seats - taken.getOrDefault(slot, 0);
      for (Person c : people) if (c.begins != null && sitting(c, c.begins, slot) >= 0) f--;
      return f < 0 ? 0 : f;
    }

    int work(Person c) {
      int n = 0;
      for (int p : papersOf(c)) n += time(c, p);
      return n;
    }

    TreeMap<Integer, Integer> byOrder(Person c, List<Integer> order) {
      TreeMap<Integer, Integer> begins = new TreeMap<>();
      int end = -1, firstDay = 0;
      boolean endOnFirst = false;
      for (int p : order) {
        int t = time(c, p), found = -1;
        for (int s = papers.get(p).start; s < 30 && found < 0; s++) {
          boolean onFirst = s < 20;
          if (end >= 0 && s < end + (endOnFirst == onFirst ? c.rest : 0)) continue;
          if (onFirst ? s + t > 20 : s + t > 30) continue;
          boolean seat = true;
          for (int i = s; i < s + t; i++) seat &= free(i) > 0;
          if (!seat) continue;
          if (onFirst && firstDay + t > hours) continue;
          found = s;
        }
        if (found < 0) return null;
        begins.put(p, found);
        end = found + t;
        endOnFirst = found < 20;
        if (endOnFirst) firstDay += t;
      }
      return begins;
    }

    int lastEnd(Person c, Map<Integer, Integer> begins) {
      int e = 0;
      for (Map.Entry<Integer, Integer> b : begins.entrySet()) e = Math.max(e, b.getValue() + time(c, b.getKey()));
      return e;
    }

    static int nights(Map<Integer, Integer> begins) {
      int n = 0;
      for (int b : begins.values()) if (b >= 20) n++;
      return n;
    }

    List<TreeMap<Integer, Integer>> allWays(Person c, List<Integer> set) {
      List<TreeMap<Integer, Integer>> ways = new ArrayList<>();
      for (List<Integer> order : rows(set)) {
        TreeMap<Integer, Integer> w = byOrder(c, order);
        if (w != null) ways.add(w);
      }
      return ways;
    }

    TreeMap<Integer, Integer> plan(Person c) {
      TreeMap<Integer, Integer> best = null;
      int[] bestKey = null;
      for (TreeMap<Integer, Integer> w : allWays(c, papersOf(c))) {
        int[] key = {nights(w), kept(c, w), lastEnd(c, w)};
        if (best == null || Arrays.compare(key, bestKey) < 0) { best = w; bestKey = key; }
      }
      return best;
    }

    int keptAll() {
      int n = 0;
      for (Person c : people) if (c.begins != null) n += kept(c, c.begins);
      return n;
    }

    int planned() {
      int n = 0;
      for (Person c : people) if (c.begins != null) n++;
      return n;
    }

    void delay(int p, int slots) {
      papers.get(p).start = Math.min(15, papers.get(p).start + slots);
      for (Person c : people) if ((c.sits & (1 << p)) != 0) c.begins = null;
    }

    int step(Law law) {
      int who = -2;
      long most = 0;
      for (int i = 0; i < people.size(); i++) {
        Person c = people.get(i);
        if (c.begins != null) continue;
        TreeMap<Integer, Integer> plan = plan(c);
        if (plan == null) continue;
        if (law == null) { who = i; break; }
        long v = law.value(facts(i, c, plan));
        if (v > most) { most = v; who = i; }
      }
      if (who >= 0) people.get(who).begins = plan(people.get(who));
      turn++;
      return who;
    }

    Map<String, Long> facts(int i, Person c, TreeMap<Integer, Integer> plan) {
      Map<String, Long> f = new HashMap<>();
      f.put("candidate", (long) i);
      f.put("papers", (long) papersOf(c).size());
      f.put("extra", (long) c.extra);
      f.put("rest", (long) c.rest);
      f.put("nights", (long) nights(plan));
      f.put("kept", (long) kept(c, plan));
      f.put("finish", (long) lastEnd(c, plan));
      f.put("work", (long) work(c));
      int busy = 0;
      for (int s = 0; s < 30; s++) busy = Math.max(busy, seats - free(s));
      f.put("busy", (long) busy);
      f.put("waiting", (long) (people.size() - planned()));
      f.put("turn", (long) turn);
      return f;
    }

    String line(Person c) {
      StringBuilder b = new StringBuilder();
      for (int s = 0; s < 30; s++) {
        int p = sitting(c, c.begins, s);
        b.append(p >= 0 ? "ABCDE".charAt(p) : keptAt(c, c.begins, s) ? 'k' : '.');
      }
      return b.toString();
    }

    String spelt(Person c) {
      String l = line(c);
      StringBuilder b = new StringBuilder();
      for (int i = 0; i < l.length(); ) {
        int j = i;
        while (j < l.length() && l.charAt(j) == l.charAt(i)) j++;
        if (j - i > 1) b.append(j - i);
        b.append(l.charAt(i));
        i = j;
      }
      return b.toString();
    }
  }

  /** All rows of some numbers, least numbers first. */
  static List<List<Integer>> rows(List<Integer> of) {
    List<List<Integer>> all = new ArrayList<>();
    if (of.isEmpty()) all.add(new ArrayList<>());
    for (int i = 0; i < of.size(); i++) {
      List<Integer> others = new ArrayList<>(of);
      int head = others.remove(i);
      for (List<Integer> tail : rows(others)) {
        List<Integer> row = new ArrayList<>();
        row.add(head);
        row.addAll(tail);
        all.add(row);
      }
    }
    return all;
  }

  /** A rule as functions of the facts. */
  static final class Law {
    final List<Function<Map<String, Long>, Long>> sums = new ArrayList<>();
    final List<Predicate<Map<String, Long>>> tests = new ArrayList<>();
    long value(Map<String, Long> facts) {
      for (int i = 0; i < sums.size(); i++) if (tests.get(i).test(facts)) return sums.get(i).apply(facts);
      return 0;
    }
  }

  /** Reads both languages by descent. */
  static final class Descent {
    final String text;
    int at = 0, many = 0;
    Descent(String text) { this.text = text; }

    int look() {
      while (at < text.length() && text.charAt(at) == ' ') at++;
      return at < text.length() ? text.charAt(at) : -1;
    }

    String word() {
      look();
      int to = at;
      while (to < text.length() && "abcdefghijklmnopqrstuvwxyz".indexOf(text.charAt(to)) >= 0) to++;
      return text.substring(at, to);
    }

    int number(int least, int most) {
      look();
      int to = at;
      while (to < text.length() && "0123456789".indexOf(text.charAt(to)) >= 0) to++;
      if (to == at) throw new Fault(at, 0);
      if (to - at > 5) throw new Fault(at, 1);
      int n = Integer.parseInt(text.substring(at, to));
      if (n < least || n > most) throw new Fault(at, 1);
      at = to;
      return n;
    }

    boolean more() {
      if (look() == -1) return false;
      if (look() != ';') throw new Fault(at, 0);
      at++;
      return true;
    }

    World day() {
      World w = new World();
      int clauses = 0;
      do {
        String k = word();
        if (!List.of("day", "paper", "candidate", "taken").contains(k)) throw new Fault(at, 0);
        if (clauses == 40) throw new Fault(at, 4);
        if (clauses == 0 && !k.equals("day") || clauses > 0 && k.equals("day")) throw new Fault(at, 4);
        if (k.equals("paper") && w.papers.size() == 5) throw new Fault(at, 4);
        if (k.equals("candidate") && w.people.size() == 6) throw new Fault(at, 4);
        at += k.length();
        if (k.equals("day")) { w.seats = number(1, 9); w.hours = number(1, 20); }
        if (k.equals("paper")) { int s = number(0, 15); w.papers.add(new Paper(s, number(1, 6))); }
        if (k.equals("taken")) { int s = number(0, 29); w.taken.put(s, number(0, 9)); }
        if (k.equals("candidate")) {
          int s = number(1, (1 << w.papers.size()) - 1), e = number(0, 100);
          w.people.add(new Person(s, e, number(0, 3)));
        }
        clauses++;
      } while (more());
      return w;
    }

    Law law() {
      Law l = new Law();
      do {
        if (!word().equals("plan")) throw new Fault(at, 0);
        if (l.sums.size() == 12) throw new Fault(at, 4);
        at += 4;
        l.sums.add(sum());
        if (word().equals("if")) { at += 2; l.tests.add(test(0)); } else l.tests.add(f -> true);
      } while (more());
      return l;
    }

    Predicate<Map<String, Long>> test(int deep) {
      Predicate<Map<String, Long>> t = part(deep);
      while (word().equals("or")) { at += 2; t = t.or(part(deep)); }
      return t;
    }

    Predicate<Map<String, Long>> part(int deep) {
      Predicate<Map<String, Long>> t = fact(deep);
      while (word().equals("and")) { at += 3; t = t.and(fact(deep)); }
      return t;
    }

    Predicate<Map<String, Long>> fact(int deep) {
      if (word().equals("not")) {
        if (deep == 10) throw new Fault(at, 2);
        at += 3;
        return fact(deep + 1).negate();
      }
      if (look() == '[') {
        if (deep == 10) throw new Fault(at, 2);
        at++;
        Predicate<Map<String, Long>> t = test(deep + 1);
        if (look() != ']') throw new Fault(at, 0);
        at++;
        return t;
      }
      Function<Map<String, Long>, Long> a = sum();
      look();
      String sign = "";
      for (String s : List.of("<=", ">=", "<", ">", "="))
        if (sign.isEmpty() && text.startsWith(s, at)) sign = s;
      if (sign.isEmpty()) throw new Fault(at, 0);
      if (++many > 60) throw new Fault(at, 3);
      at += sign.length();
      Function<Map<String, Long>, Long> b = sum();
      String how = sign;
      return f -> {
        int c = Long.compare(a.apply(f), b.apply(f));
        if (how.equals("<=")) return c <= 0;
        if (how.equals(">=")) return c >= 0;
        if (how.equals("<")) return c < 0;
        if (how.equals(">")) return c > 0;
        return c == 0;
      };
    }

    Function<Map<String, Long>, Long> sum() {
      Function<Map<String, Long>, Long> v = term();
      while (look() == '+' || look() == '-') {
        boolean plus = look() == '+';
        at++;
        Function<Map<String, Long>, Long> a = v, b = term();
        v = plus ? f -> a.apply(f) + b.apply(f) : f -> a.apply(f) - b.apply(f);
      }
      return v;
    }

    Function<Map<String, Long>, Long> term() {
      Function<Map<String, Long>, Long> v = value();
      while (look() == '*' || look() == '/' || look() == '%') {
        int how = look();
        at++;
        Function<Map<String, Long>, Long> a = v, b = value();
        if (how == '*') v = f -> a.apply(f) * b.apply(f);
        else if (how == '/') v = f -> b.apply(f) == 0 ? 0L : (Long) (a.apply(f) / b.apply(f));
        else v = f -> b.apply(f) == 0 ? 0L : (Long) (a.apply(f) % b.apply(f));
      }
      return v;
    }

    Function<Map<String, Long>, Long> value() {
      String w = word();
      int from = at;
      Function<Map<String, Long>, Long> v;
      if (w.isEmpty()) {
        long n = number(0, 99999);
        v = f -> n;
      } else {
        if (!List.of("candidate", "papers", "extra", "rest", "nights", "kept", "finish", "work", "busy", "waiting",
            "turn").contains(w)) throw new Fault(at, 0);
        at += w.length();
        v = f -> f.get(w);
      }
      if (++many > 60) throw new Fault(from, 3);
      return v;
    }
  }

  static final class Picture {
    World told, now;
    List<int[]> notes;
    int force;
    long x;
  }

  private String tape = "";
  private final List<Law> laws = new ArrayList<>();
  private World told = new World(), now = new World();
  private List<int[]> notes = new ArrayList<>();
  private int force = -1;
  private long x = 0;
  private final List<World> past = new ArrayList<>();
  private final Picture[] pictures = new Picture[4];

  private Law law() { return force < 0 ? null : laws.get(force); }
  private boolean none() { return now.seats == 0; }
  private boolean there(int c) { return c >= 0 && c < now.people.size(); }
  private boolean waits(int c) { return there(c) && now.people.get(c).begins == null; }
  private boolean fixed(int c) { return there(c) && now.people.get(c).begins != null; }
  private boolean isPaper(int p) { return p >= 0 && p < now.papers.size(); }
  private static boolean in(int v, int least, int most) { return v >= least && v <= most; }
  private void act() { past.add(now.copy()); if (past.size() > 20) past.remove(0); }

  public int feed(int a, int b, int c, int d, int e) {
    if (tape.length() + 20 > 400) return -1;
    for (int v : new int[] {a, b, c, d, e})
      for (int i = 3; i >= 0; i--) tape += (char) ((v >> (8 * i)) & 255);
    return tape.length();
  }

  public int end(int n) {
    if (!in(n, 0, tape.length())) return -1;
    tape = tape.substring(0, n);
    return n;
  }

  public int day() {
    String text = tape;
    tape = "";
    try {
      World w = new Descent(text).day();
      told = w;
      now = w.copy();
      notes = new ArrayList<>();
      past.clear();
      return w.people.size();
    } catch (Fault f) {
      return -2 - f.code;
    }
  }

  public int rule() {
    if (laws.size() == 6) return -1;
    String text = tape;
    tape = "";
    try {
      laws.add(new Descent(text).law());
      return laws.size() - 1;
    } catch (Fault f) {
      return -2 - f.code;
    }
  }

  public int force(int rule) {
    if (!in(rule, -1, laws.size() - 1)) return -2;
    int was = force;
    force = rule;
    return was;
  }

  public int paper(int p, int what) {
    if (!isPaper(p) || !in(what, 0, 2)) return -1;
    if (what == 0) return now.papers.get(p).start;
    if (what == 1) return now.papers.get(p).length;
    int bits = 0;
    for (int c = 0; c < now.people.size(); c++) if (now.papersOf(now.people.get(c)).contains(p)) bits += 1 << c;
    return bits;
  }

  public int candidate(int c, int what) {
    if (!there(c) || !in(what, 0, 3)) return -1;
    Person p = now.people.get(c);
    return new int[] {p.sits, p.extra, p.rest, p.begins == null ? 1 : 0}[what];
  }

  public int free(int slot) { return none() || !in(slot, 0, 29) ? -1 : now.free(slot); }

  public int time(int c, int p) {
    if (!there(c) || !isPaper(p) || !now.papersOf(now.people.get(c)).contains(p)) return -1;
    return now.time(now.people.get(c), p);
  }

  public int turn() {
    if (none() || now.turn == 999) return -1;
    act();
    return now.step(law());
  }

  public int plan(int c) {
    if (!waits(c)) return -1;
    Person p = now.people.get(c);
    TreeMap<Integer, Integer> plan = now.plan(p);
    if (plan == null) return -1;
    act();
    p.begins = plan;
    return now.lastEnd(p, plan);
  }

  public int drop(int c) {
    if (!fixed(c)) return -1;
    act();
    now.people.get(c).begins = null;
    return now.people.size() - now.planned();
  }

  public int delay(int p, int slots) {
    if (!isPaper(p) || !in(slots, 1, 9) || now.papers.get(p).start == 15) return -1;
    act();
    now.delay(p, slots);
    return now.papers.get(p).start;
  }

  public int take(int slot, int seats) {
    if (none() || !in(slot, 0, 29) || !in(seats, 0, 9)) return -1;
    int were = now.taken.getOrDefault(slot, 0);
    if (were == seats) return -1;
    act();
    now.taken.put(slot, seats);
    return were;
  }

  public int undo() {
    if (past.isEmpty()) return -1;
    now = past.remove(past.size() - 1);
    return past.size();
  }

  public int begins(int c, int p) {
    if (!fixed(c) || !isPaper(p)) return -1;
    return now.people.get(c).begins.getOrDefault(p, -2);
  }

  public int could(int c, int what) {
    if (!waits(c) || !in(what, 0, 7)) return -3;
    Person p = now.people.get(c);
    TreeMap<Integer, Integer> plan = now.plan(p);
    if (plan == null) return -2;
    if (what == 0) return World.nights(plan);
    if (what == 1) return now.kept(p, plan);
    if (what == 2) return now.lastEnd(p, plan);
    return plan.getOrDefault(what - 3, -1);
  }

  public int orders(int c) {
    if (!waits(c)) return -1;
    Person p = now.people.get(c);
    return now.allWays(p, now.papersOf(p)).size();
  }

  public int clash(int c, int what) {
    if (!waits(c) || !in(what, 0, 1)) return -1;
    Person p = now.people.get(c);
    if (now.plan(p) != null) return -2;
    int best = -1;
    for (int set = 31; set > 0; set--) {
      if ((set & p.sits) != set) continue;
      List<Integer> some = new ArrayList<>();
      for (int i = 0; i < 5; i++) if ((set & (1 << i)) != 0) some.add(i);
      if (now.allWays(p, some).isEmpty() && (best < 0 || some.size() <= Integer.bitCount(best))) best = set;
    }
    return what == 0 ? Integer.bitCount(best) : best;
  }

  public int line(int c, int slot) {
    return fixed(c) && in(slot, 0, 29) ? now.line(now.people.get(c)).charAt(slot) : -1;
  }

  public int spelt(int c, int place) {
    if (!fixed(c) || place < -1) return -1;
    String s = now.spelt(now.people.get(c));
    if (place == -1) return s.length();
    return place < s.length() ? s.charAt(place) : -2;
  }

  public int first(int a, int b, int what) {
    if (!fixed(a) || !fixed(b) || a == b || !in(what, 0, 1)) return -1;
    String s = now.spelt(now.people.get(a)), t = now.spelt(now.people.get(b));
    if (what == 0) return s.equals(t) ? -2 : s.compareTo(t) < 0 ? a : b;
    int n = 0;
    while (n < s.length() && t.startsWith(s.substring(0, n + 1))) n++;
    return n;
  }

  private boolean keptNow(int c, int slot) {
    Person p = now.people.get(c);
    return p.begins != null && now.keptAt(p, p.begins, slot);
  }

  public int watchers(int n, int what) {
    if (none() || !in(n, 1, 6) || !in(what, 0, 1)) return -1;
    int most = 0, where = 0;
    for (int s = 0; s < 30; s++) {
      int k = 0;
      for (int c = 0; c < now.people.size(); c++) if (keptNow(c, s)) k++;
      int need = k / n + (k % n > 0 ? 1 : 0);
      if (need > most) { most = need; where = s; }
    }
    return what == 0 ? most : where;
  }

  public int chain(int n, int c, int slot) {
    if (!in(n, 1, 6) || !fixed(c) || !in(slot, 0, 29)) return -1;
    Map<Integer, Integer> had = new TreeMap<>();
    for (int s = 0; s <= slot; s++) {
      Map<Integer, Integer> has = new TreeMap<>();
      for (int i = 0; i < now.people.size(); i++) if (keptNow(i, s) && had.containsKey(i)) has.put(i, had.get(i));
      for (int i = 0; i < now.people.size(); i++) {
        if (!keptNow(i, s) || has.containsKey(i)) continue;
        int w = 0;
        while (java.util.Collections.frequency(has.values(), w) >= n) w++;
        has.put(i, w);
      }
      had = has;
    }
    return had.getOrDefault(c, -2);
  }

  public int apart(int a, int b) {
    if (!fixed(a) || !fixed(b) || a == b) return -1;
    Person p = now.people.get(a), q = now.people.get(b);
    int n = 0;
    for (int s = 0; s < 30; s++) {
      boolean secret = false;
      for (int i : p.begins.keySet())
        if (q.begins.containsKey(i) && p.begins.get(i) > s && q.begins.get(i) <= s) secret = true;
      if (secret && now.sitting(p, p.begins, s) < 0 && now.sitting(q, q.begins, s) < 0) n++;
    }
    return n;
  }

  public int best(int what) {
    if (none() || !in(what, 0, 5)) return -2;
    List<Integer> some = new ArrayList<>();
    for (int c = 0; c < now.people.size(); c++) if (waits(c) && some.size() < 4) some.add(c);
    int most = -1, fewest = 0;
    List<Integer> bestRow = null;
    for (List<Integer> row : rows(some)) {
      World w = now.copy();
      int n = 0, k = 0;
      for (int c : row) {
        Person p = w.people.get(c);
        p.begins = w.plan(p);
        if (p.begins != null) { n++; k += w.kept(p, p.begins); }
      }
      if (n > most || n == most && k < fewest) { most = n; fewest = k; bestRow = row; }
    }
    if (what == 0) return most;
    if (what == 1) return fewest;
    return what - 2 < bestRow.size() ? bestRow.get(what - 2) : -1;
  }

  public int harm(int n, int what) {
    if (none() || !in(n, 1, 9) || !in(what, 0, 1)) return -1;
    int most = -2, which = -2;
    for (int p = 0; p < now.papers.size(); p++) {
      if (now.papers.get(p).start >= 15) continue;
      World w = now.copy();
      w.delay(p, n);
      int bad = 0;
      for (Person c : w.people) if (c.begins == null && w.plan(c) == null) bad++;
      if (bad > most) { most = bad; which = p; }
    }
    return what == 0 ? which : most;
  }

  public int ahead(int n, int what) {
    if (none() || !in(n, 0, 20) || !in(what, 0, 2)) return -1;
    World w = now.copy();
    for (int i = 0; i < n; i++) w.step(law());
    if (what == 0) return w.planned();
    if (what == 1) return w.keptAll();
    int bits = 0;
    for (int s = 0; s < 30; s++) if (w.free(s) == 0) bits += 1 << s;
    return bits;
  }

  public int when(int c) {
    if (!waits(c)) return -1;
    World w = now.copy();
    for (int t = now.turn; t < now.turn + 20; t++) {
      w.step(law());
      if (w.people.get(c).begins != null) return t;
    }
    return -2;
  }

  private boolean asNoted(World w, Law law) {
    for (int i = 0; i <= 9; i++) {
      w.step(law);
      for (int[] n : notes) if (n[0] == i && w.free(n[1]) != n[2]) return false;
    }
    return true;
  }

  public int extras(int c, int what) {
    if (!there(c) || !in(what, 0, 1)) return -1;
    int n = 0, least = -2;
    for (int e = 100; e >= 0; e -= 20) {
      World w = told.copy();
      w.people.get(c).extra = e;
      if (asNoted(w, law())) { n++; least = e; }
    }
    return what == 0 ? n : least;
  }

  public int resting(int c) {
    if (!there(c)) return -1;
    int bits = 0;
    for (int r = 0; r < 4; r++) {
      World w = told.copy();
      w.people.get(c).rest = r;
      if (asNoted(w, law())) bits += 1 << r;
    }
    return bits;
  }

  public int rests(int a, int b, int what) {
    if (!waits(a) || !waits(b) || a == b || !in(what, 0, 2)) return -1;
    int[][][] has = new int[4][4][];
    for (int i = 0; i < 4; i++) {
      for (int j = 0; j < 4; j++) {
        World w = now.copy();
        Person p = w.people.get(a), q = w.people.get(b);
        p.rest = i;
        q.rest = j;
        p.begins = w.plan(p);
        q.begins = w.plan(q);
        has[i][j] = new int[] {p.begins == null ? 0 : 30 - w.lastEnd(p, p.begins) + 2 * i,
            q.begins == null ? 0 : 30 - w.lastEnd(q, q.begins) + 2 * j};
      }
    }
    int n = 0, one = -2, two = -2;
    for (int i = 3; i >= 0; i--) {
      for (int j = 3; j >= 0; j--) {
        boolean calm = true;
        for (int k = 0; k < 4; k++) calm &= has[k][j][0] <= has[i][j][0] && has[i][k][1] <= has[i][j][1];
        if (calm) { n++; one = i; two = j; }
      }
    }
    return what == 0 ? n : what == 1 ? one : two;
  }

  public int pence(int much, int c) {
    if (!in(much, 0, 9999) || !there(c)) return -1;
    List<Integer> some = new ArrayList<>();
    int all = 0, given = 0;
    for (int i = 0; i < now.people.size(); i++) if (fixed(i)) { some.add(i); all += now.work(now.people.get(i)); }
    if (!some.contains(c)) return 0;
    int total = all;
    Map<Integer, Integer> parts = new HashMap<>();
    for (int i : some) {
      parts.put(i, much * now.work(now.people.get(i)) / total);
      given += parts.get(i);
    }
    some.sort((i, j) -> {
      int l = much * now.work(now.people.get(i)) % total, m = much * now.work(now.people.get(j)) % total;
      return l != m ? m - l : i - j;
    });
    for (int i = 0; given < much; i++, given++) parts.merge(some.get(i), 1, Integer::sum);
    return parts.get(c);
  }

  public int note(int n, int slot, int seats) {
    if (n == -1) { notes.clear(); return 0; }
    if (none() || !in(n, 0, 9) || !in(slot, 0, 29) || !in(seats, 0, 9) || notes.size() == 10) return -2;
    notes.add(new int[] {n, slot, seats});
    return notes.size();
  }

  private List<Integer> lawful() {
    List<Integer> some = new ArrayList<>();
    for (int r = -1; r < laws.size(); r++) if (asNoted(told.copy(), r < 0 ? null : laws.get(r))) some.add(r);
    return some;
  }

  public int ruled(int what) {
    if (none() || !in(what, 0, 1)) return -3;
    List<Integer> some = lawful();
    return what == 0 ? some.size() : some.isEmpty() ? -2 : some.get(0);
  }

  public int look(int n, int what) {
    if (none() || !in(n, 0, 9) || !in(what, 0, 1)) return -1;
    List<Integer> some = lawful();
    if (some.isEmpty()) return -2;
    List<World> worlds = new ArrayList<>();
    for (int r : some) {
      World w = told.copy();
      do w.step(r < 0 ? null : laws.get(r)); while (w.turn <= n);
      worlds.add(w);
    }
    int slot = -1, fewest = 99;
    for (int s = 0; s < 30; s++) {
      Map<Integer, Integer> groups = new HashMap<>();
      for (World w : worlds) groups.merge(w.free(s), 1, Integer::sum);
      int most = java.util.Collections.max(groups.values());
      if (most < fewest) { fewest = most; slot = s; }
    }
    return what == 0 ? slot : fewest;
  }

  public int seed(int to) {
    if (to < 0) return -1;
    int was = (int) x;
    x = to;
    return was;
  }

  private long draw() {
    x = (x * 1103515245L + 12345) & 0x7fffffffL;
    return x >> 16;
  }

  public int ill(int m, int n, int p, int what) {
    if (none() || !in(m, 1, 5) || !in(n, 1, 9) || !in(p, 0, 100) || !in(what, 0, 1)) return -1;
    long was = x;
    int planned = 0, kept = 0;
    for (int i = 0; i < m; i++) {
      World w = now.copy();
      for (int j = 0; j < n; j++) {
        if (draw() % 100 < p && !w.people.isEmpty()) w.people.get((int) (draw() % w.people.size())).begins = null;
        w.step(law());
      }
      planned += w.planned();
      kept += w.keptAll();
    }
    x = was;
    return what == 0 ? planned : kept;
  }

  public int count(int what) {
    if (!in(what, 0, 12)) return -1;
    int waiting = 0;
    for (int c = 0; c < now.people.size(); c++) if (waits(c)) waiting += 1 << c;
    return new int[] {now.seats, now.hours, now.papers.size(), now.people.size(), laws.size(), force, now.turn,
        waiting, now.keptAll(), notes.size(), past.size(), (int) x, tape.length()}[what];
  }

  public int image(int k) {
    if (!in(k, 0, 3)) return -1;
    Picture p = new Picture();
    p.told = told.copy();
    p.now = now.copy();
    p.notes = new ArrayList<>(notes);
    p.force = force;
    p.x = x;
    pictures[k] = p;
    return now.turn;
  }

  public int back(int k) {
    if (!in(k, 0, 3) || pictures[k] == null) return -1;
    Picture p = pictures[k];
    told = p.told.copy();
    now = p.now.copy();
    notes = new ArrayList<>(p.notes);
    force = p.force;
    x = p.x;
    past.clear();
    return now.turn;
  }
}
