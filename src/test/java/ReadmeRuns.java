import java.lang.reflect.Method;
import java.lang.reflect.Modifier;
import java.nio.file.Files;
import java.nio.file.Path;
import java.util.regex.Matcher;
import java.util.regex.Pattern;

/** Plays the examples of README.md, each call against the number in its comment; the page must name every call. */
public final class ReadmeRuns {
  private static final Due DUE = new Due();
  private static final Pattern CALL = Pattern.compile("x\\.(\\w+)\\(([^)]*)\\); +// (-?\\d+)(:.*)?");
  private static final Pattern TELL = Pattern.compile("tell\\(x, \"([^\"]*)\"\\);");
  /** What tell in the page must do is what the tests' own one does. */
  private static final String TELL_BEGINS = "static void tell(";

  private static int answer(ClashDay x, String name, String list) throws Exception {
    String[] told = list.isEmpty() ? new String[0] : list.split(", ");
    Class<?>[] types = new Class<?>[told.length];
    Object[] values = new Object[told.length];
    for (int i = 0; i < told.length; i++) {
      types[i] = int.class;
      values[i] = Integer.decode(told[i]);
    }
    return (Integer) ClashDay.class.getMethod(name, types).invoke(x, values);
  }

  private static void play(String block) throws Exception {
    ClashDay x = null;
    for (String line : block.split("\n")) {
      Matcher call = CALL.matcher(line), tell = TELL.matcher(line);
      if (line.equals("ClashDay x = new ClashDay();")) x = new ClashDay();
      else if (tell.matches()) Due.tell(x, tell.group(1));
      else if (call.matches()) DUE.is(line, answer(x, call.group(1), call.group(2)), Integer.parseInt(call.group(3)));
      else throw new IllegalStateException("this line of README.md can't be played: " + line);
    }
  }

  private static String bare(String code) { return code.replaceAll("\\s", ""); }

  public static void main(String[] args) throws Exception {
    String page = Files.readString(Path.of("README.md"));
    String due = bare(Files.readString(Path.of("src/test/java/Due.java")));
    Matcher block = Pattern.compile("```java\n(.*?)\n```", Pattern.DOTALL).matcher(page);
    int blocks = 0;
    while (block.find()) {
      blocks++;
      if (block.group(1).startsWith(TELL_BEGINS)) DUE.is("tell is as in Due", due.contains(bare(block.group(1))) ? 1 : 0, 1);
      else play(block.group(1));
    }
    DUE.is("examples", blocks, 4);
    for (Method m : ClashDay.class.getDeclaredMethods())
      if (Modifier.isPublic(m.getModifiers()))
        DUE.is("README.md names " + m.getName(), page.contains("`" + m.getName() + "`") ? 1 : 0, 1);
    DUE.end();
  }
}
