import java.io.IOException;
import java.lang.reflect.InvocationTargetException;
import java.lang.reflect.Method;
import java.nio.file.Files;
import java.nio.file.Path;
import java.util.regex.Matcher;
import java.util.regex.Pattern;

/** The calls that README.md shows, each with the answer that stands behind it. */
public final class ReadmeTest {
  static final Pattern LINE = Pattern.compile("diary\\.(\\w+)\\((.*)\\); +// (-?\\d+|\\w+Exception)(:.*)?");

  static Object argument(String text) {
    if (text.startsWith("'")) return (int) text.charAt(1);
    return text.equals("true") || text.equals("false") ? (Object) Boolean.valueOf(text) : Integer.valueOf(text);
  }

  static String answer(HallDiary diary, String name, String arguments) throws IllegalAccessException {
    String[] texts = arguments.isEmpty() ? new String[0] : arguments.split(", ");
    Object[] values = new Object[texts.length];
    for (int i = 0; i < texts.length; i++) values[i] = argument(texts[i]);
    for (Method method : HallDiary.class.getMethods()) {
      if (!method.getName().equals(name) || method.getDeclaringClass() != HallDiary.class) continue;
      try {
        return "" + method.invoke(diary, values);
      } catch (InvocationTargetException e) {
        return e.getCause().getClass().getSimpleName();
      }
    }
    return "no such call";
  }

  public static void main(String[] args) throws IOException, IllegalAccessException {
    HallDiary diary = null;
    boolean isCode = false;
    int asked = 0;
    int wrong = 0;
    for (String line : Files.readAllLines(Path.of("README.md"))) {
      if (line.startsWith("```")) {
        isCode = line.equals("```java");
        continue;
      }
      if (!isCode || line.isEmpty()) continue;
      if (line.equals("HallDiary diary = new HallDiary();")) {
        diary = new HallDiary();
        continue;
      }
      Matcher call = LINE.matcher(line);
      String got = call.matches() ? answer(diary, call.group(1), call.group(2)) : "cannot be read";
      asked++;
      if (call.matches() && got.equals(call.group(3))) continue;
      wrong++;
      System.out.println("README.md: " + line + " <- " + got);
    }
    System.out.println(wrong == 0 ? asked + " calls of README.md are as it says" : wrong + " calls of README.md are not as it says");
    if (wrong != 0 || asked == 0) System.exit(1);
  }
}
