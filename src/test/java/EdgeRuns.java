import java.lang.reflect.InvocationTargetException;
import java.lang.reflect.Method;
import java.util.TreeMap;

/**
 * Runs each test of an edge: a method named p and the promise's number, what is called, and the case.
 * With a word as its argument only those whose name begins so, as: EdgeRuns p14
 */
public final class EdgeRuns {
  private static final Class<?>[] PARTS = {EdgesOfTexts.class, EdgesOfActs.class, EdgesOfAnswers.class};

  public static void main(String[] args) throws Exception {
    TreeMap<String, Method> tests = new TreeMap<>();
    for (Class<?> part : PARTS)
      for (Method m : part.getDeclaredMethods())
        if (m.getName().matches("p\\d\\d_.*") && tests.put(m.getName(), m) != null)
          throw new IllegalStateException("two tests are named " + m.getName());
    int run = 0;
    for (Method m : tests.values()) {
      if (args.length > 0 && !m.getName().startsWith(args[0])) continue;
      run++;
      Edge.begin(m.getName());
      try {
        m.invoke(null);
      } catch (InvocationTargetException e) {
        Edge.fail("throws " + e.getCause());
      }
    }
    Edge.begin("every promise has a test");
    for (int p = 1; p <= 42 && args.length == 0; p++) {
      String from = String.format("p%02d_", p);
      String next = tests.ceilingKey(from);
      if (next == null || !next.startsWith(from)) Edge.fail("promise " + p + " has none");
    }
    System.out.println(Edge.wrong() == 0 ? run + " tests of edges pass, " + Edge.asked() + " answers are as due"
        : Edge.wrong() + " answers are not as due");
    if (Edge.wrong() != 0) System.exit(1);
  }
}
