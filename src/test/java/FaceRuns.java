import java.lang.reflect.Constructor;
import java.lang.reflect.Field;
import java.lang.reflect.Method;
import java.lang.reflect.Modifier;
import java.nio.file.Files;
import java.nio.file.Path;
import java.util.ArrayList;
import java.util.List;
import java.util.TreeSet;
import java.util.regex.Matcher;
import java.util.regex.Pattern;

/** The face as the document tells it, and those rules of LANGUAGE.md that can be looked at from here. */
public final class FaceRuns {
  private static int wrong = 0;

  private static void must(boolean holds, String what) {
    if (!holds) {
      wrong++;
      System.out.println("not so: " + what);
    }
  }

  private static TreeSet<String> toldFace() throws Exception {
    TreeSet<String> face = new TreeSet<>();
    Matcher m = Pattern.compile("(?m)^    public int (\\w+)\\(([^)]*)\\);").matcher(Files.readString(Path.of("../shared/DOC.md")));
    while (m.find()) face.add(m.group(1) + (m.group(2).isEmpty() ? 0 : m.group(2).split(",").length));
    return face;
  }

  private static void face() throws Exception {
    Class<?> c = ClashDay.class;
    must(Modifier.isPublic(c.getModifiers()) && Modifier.isFinal(c.getModifiers()), "public and final");
    TreeSet<String> has = new TreeSet<>(), names = new TreeSet<>();
    for (Method m : c.getDeclaredMethods()) {
      if (!Modifier.isPublic(m.getModifiers())) continue;
      must(m.getReturnType() == int.class && !Modifier.isStatic(m.getModifiers()), m.getName() + " answers an int");
      has.add(m.getName() + m.getParameterCount());
      names.add(m.getName());
    }
    must(has.equals(toldFace()), "the face is " + has);
    for (Constructor<?> k : c.getDeclaredConstructors())
      must(Modifier.isPublic(k.getModifiers()) && k.getParameterCount() == 0, "one public constructor");
    for (Field f : c.getDeclaredFields())
      must(f.getName().equals("NONE") || Modifier.isPrivate(f.getModifiers()), f + " is private");
    must(ClashDay.NONE == -1, "NONE is -1");
    List<Class<?>> all = new ArrayList<>(List.of(c.getDeclaredClasses()));
    all.add(c);
    must(all.size() <= 12, "at most twelve classes");
    for (Class<?> k : all) members(k, names, k == c);
  }

  private static void members(Class<?> k, TreeSet<String> names, boolean outer) {
    must(outer || Modifier.isStatic(k.getModifiers()), k + " is static");
    int fields = 0;
    for (Field f : k.getDeclaredFields()) {
      if (!Modifier.isStatic(f.getModifiers())) fields++;
      else must(Modifier.isFinal(f.getModifiers()), f + " is final");
    }
    must(fields <= 20, k + " has at most twenty fields");
    for (Method m : k.getDeclaredMethods()) {
      boolean shown = outer && Modifier.isPublic(m.getModifiers());
      must(m.getParameterCount() <= 7, m + " takes at most seven");
      must(shown || !names.contains(m.getName()), m + " bears a public name");
      must(shown || !outer || Modifier.isPrivate(m.getModifiers()), m + " is private");
    }
  }

  private static void source() throws Exception {
    String text = Files.readString(Path.of("src/main/java/ClashDay.java"));
    for (char sign : text.toCharArray()) must(sign < 127, "plain signs alone");
    String code = text.replaceAll("(?s)/\\*.*?\\*/", " ").replaceAll("//[^\n]*", " ").replaceAll("\"[^\"]*\"", "\"\"");
    for (String word : "throw throws try catch finally synchronized assert import package double float native volatile"
        .split(" ")) must(!Pattern.compile("\\b" + word + "\\b").matcher(code).find(), "no " + word);
    for (String sign : new String[] {"->", "::", "\" +", "+ \"", "@"}) must(!code.contains(sign), "no " + sign);
    TreeSet<String> library = new TreeSet<>(List.of("Integer.bitCount", "Integer.numberOfTrailingZeros", "Math.max",
        "Math.min", "System.arraycopy"));
    Matcher m = Pattern.compile("\\b(Integer|Long|Math|System|Arrays|String|Object)\\.(\\w+)").matcher(code);
    while (m.find()) must(library.contains(m.group()), m.group() + " is of the library that is used");
    int from = 0, line = 0;
    boolean inConstructor = false;
    for (String l : text.split("\n")) {
      line++;
      if (l.equals("    public ClashDay() {")) inConstructor = true;
      if (l.equals("    }")) inConstructor = false;
      boolean makes = Pattern.compile("\\bnew\\b|\\.clone\\(|copyOf").matcher(l).find();
      boolean isField = l.matches(" {4,8}(private )?(static )?final [\\w\\[\\]]+ \\w+ = new .*;");
      must(!makes || inConstructor || isField || l.matches("\\s*(//|/?\\*).*"), "line " + line + " makes no object in a call");
      if (l.matches(" {4,8}(public|private|static|int|long|void|boolean|char|Board|[A-Z]\\w*\\().*\\{")) from = line;
      if (l.matches(" {4}\\}| {8}\\}")) must(line - from <= 60, "the method that ends at line " + line + " is short");
    }
  }

  /** All arguments that could do harm, in all states that come up early: no call may throw. */
  private static void wild() throws Exception {
    int[] odd = {Integer.MIN_VALUE, -3, -2, -1, 0, 1, 2, 5, 6, 9, 19, 20, 29, 30, 31, 32, 100, 400, Integer.MAX_VALUE};
    for (int state = 0; state < 4; state++) {
      for (Method m : ClashDay.class.getDeclaredMethods()) {
        if (!Modifier.isPublic(m.getModifiers())) continue;
        int n = m.getParameterCount(), all = 1;
        for (int i = 0; i < n; i++) all *= n > 3 ? 5 : odd.length;
        for (int k = 0; k < all; k++) {
          ClashDay x = inState(state);
          Object[] args = new Object[n];
          for (int i = 0, rest = k; i < n; i++) {
            int base = n > 3 ? 5 : odd.length;
            args[i] = n > 3 ? new int[] {Integer.MIN_VALUE, -1, 0, 1, Integer.MAX_VALUE}[rest % base] : odd[rest % base];
            rest /= base;
          }
          try {
            m.invoke(x, args);
          } catch (Exception e) {
            must(false, m.getName() + " throws " + e.getCause());
          }
        }
      }
    }
  }

  private static ClashDay inState(int state) {
    ClashDay x = new ClashDay();
    if (state > 0) Due.day(x, state == 1 ? "day 1 1" : "day 1 20;paper 0 6;paper 15 2;paper 3 1;paper 3 2;paper 0 1;"
        + "candidate 31 0 1;candidate 31 100 3;candidate 3 10 0;candidate 16 0 0;candidate 5 0 0;candidate 1 0 0");
    if (state > 1) Due.rule(x, "plan 99999 * finish - 1 / nights % 0 if not [busy < 0 or turn > 5]");
    if (state > 2) {
      x.force(0);
      x.turn();
      x.turn();
      x.note(2, 3, 0);
    }
    return x;
  }

  public static void main(String[] args) throws Exception {
    face();
    source();
    wild();
    System.out.println(wrong == 0 ? "the face and the language are as told" : wrong + " are not as told");
    if (wrong != 0) System.exit(1);
  }
}
