import java.io.IOException;
import java.lang.reflect.Constructor;
import java.lang.reflect.Field;
import java.lang.reflect.Method;
import java.lang.reflect.Modifier;
import java.nio.file.Files;
import java.nio.file.Path;
import java.util.HashSet;
import java.util.List;
import java.util.Set;
import java.util.TreeSet;
import java.util.regex.Matcher;
import java.util.regex.Pattern;

/** The face of the class as the document has it, and the rules of LANGUAGE.md that its text shows. */
public final class RulesTest {
  static final String[] FACE = {
    "regular(int,int,int,int,int,int):int!IndexOutOfBoundsException,IllegalArgumentException,IllegalStateException",
    "single(int,int,int,int,int,int):int!IndexOutOfBoundsException,IllegalArgumentException,IllegalStateException",
    "cancel(boolean,int):int!IndexOutOfBoundsException",
    "off(int,int):int!IndexOutOfBoundsException,IllegalArgumentException,IllegalStateException",
    "rate(int,int):int!IndexOutOfBoundsException,IllegalArgumentException",
    "set(int,int):int!IndexOutOfBoundsException,IllegalArgumentException,IllegalStateException",
    "append(int):int!IllegalArgumentException,IllegalStateException",
    "clearBuffer():int!",
    "firstError():int!",
    "lets():int!IllegalArgumentException",
    "undo():int!IllegalStateException",
    "keep():int!",
    "restore():int!IllegalStateException",
    "regularOf(int,int):int!IndexOutOfBoundsException,IllegalArgumentException",
    "singleOf(int,int):int!IndexOutOfBoundsException,IllegalArgumentException",
    "who(int,int,int):int!IndexOutOfBoundsException,IllegalArgumentException",
    "hallOf(int,int,int):int!IndexOutOfBoundsException,IllegalArgumentException",
    "tenant(int,int):int!IndexOutOfBoundsException,IllegalArgumentException",
    "count(int):int!IllegalArgumentException",
    "refusal(int,int,int,int,int):int!IndexOutOfBoundsException,IllegalArgumentException",
    "price(int,int,int,int):int!IndexOutOfBoundsException,IllegalArgumentException",
    "nextFree(int,int,int):int!IndexOutOfBoundsException,IllegalArgumentException",
    "best():int!",
    "fullness(int):double!IndexOutOfBoundsException",
    "meanRent():float!",
    "digest():long!",
  };
  static final Set<String> LIBRARY = Set.of("Math", "Integer", "Long", "Arrays", "System");
  static int wrong = 0;

  static void check(boolean isRight, String what) {
    if (!isRight) {
      wrong++;
      System.out.println("against the rules: " + what);
    }
  }

  static String names(Class<?>[] types) {
    StringBuilder s = new StringBuilder();
    for (Class<?> t : types) s.append(s.length() > 0 ? "," : "").append(t.getSimpleName());
    return s.toString();
  }

  static void face() throws ReflectiveOperationException {
    Class<?> c = HallDiary.class;
    check(Modifier.isPublic(c.getModifiers()) && Modifier.isFinal(c.getModifiers()), "the class is public and final");
    Set<String> want = new TreeSet<>(List.of(FACE));
    Set<String> open = new TreeSet<>();
    Set<String> openNames = new HashSet<>();
    for (Method m : c.getDeclaredMethods()) {
      if (Modifier.isPrivate(m.getModifiers()) || m.isSynthetic()) continue;
      openNames.add(m.getName());
      check(m.getModifiers() == Modifier.PUBLIC, m.getName() + " is public and nothing else");
      open.add(m.getName() + "(" + names(m.getParameterTypes()) + "):" + m.getReturnType().getSimpleName() + "!"
          + names(m.getExceptionTypes()));
    }
    check(want.equals(open), "the methods are " + open);
    for (Field f : c.getDeclaredFields()) {
      boolean isNone = f.getName().equals("NONE");
      check(isNone == !Modifier.isPrivate(f.getModifiers()), "the field " + f.getName());
      if (isNone) check(f.getModifiers() == (Modifier.PUBLIC | Modifier.STATIC | Modifier.FINAL) && f.getInt(null) == -1, "NONE");
    }
    Constructor<?>[] made = c.getDeclaredConstructors();
    check(made.length == 1 && made[0].getParameterCount() == 0 && Modifier.isPublic(made[0].getModifiers()), "one constructor");
    checkMembers(c, openNames);
    check(c.getDeclaredClasses().length <= 12, "classes inside");
    for (Class<?> inside : c.getDeclaredClasses()) {
      check(Modifier.isStatic(inside.getModifiers()) && !Modifier.isPublic(inside.getModifiers()), inside + " is static");
      checkMembers(inside, openNames);
    }
  }

  static void checkMembers(Class<?> c, Set<String> openNames) {
    int fields = 0;
    for (Field f : c.getDeclaredFields()) {
      if (!Modifier.isStatic(f.getModifiers())) fields++;
      else check(Modifier.isFinal(f.getModifiers()), "static field " + f.getName());
    }
    check(fields <= 20, "fields of " + c);
    for (Method m : c.getDeclaredMethods()) {
      check(m.getParameterCount() <= 7, "parameters of " + m.getName());
      check(c == HallDiary.class ? Modifier.isPublic(m.getModifiers()) == openNames.contains(m.getName())
          : !openNames.contains(m.getName()), "the name " + m.getName());
    }
  }

  static void text() throws IOException {
    String whole = Files.readString(Path.of("src/main/java/HallDiary.java"));
    String text = whole.replaceAll("//[^\n]*", "").replaceAll("\"[^\"\n]*\"", "\"\"").replaceAll("'[^'\n]*'", "' '");
    check(whole.chars().allMatch(ch -> ch < 127), "signs beyond ASCII");
    for (String no : List.of("import ", "package ", "->", "::", "catch", "finally", "synchronized", "assert", "static {", "Double.",
        "Float.", "\" +", "+ \"", "instanceof", "StackOverflow", "Object", "Exact(", "protected ")) {
      check(!text.contains(no), "the text has " + no);
    }
    Matcher calls = Pattern.compile("\\b([A-Z][a-z][A-Za-z]*)\\.([a-z][A-Za-z]*)").matcher(text);
    while (calls.find()) check(LIBRARY.contains(calls.group(1)), "the library's " + calls.group());
    Matcher loops = Pattern.compile("\\bwhile\\b|for \\(;;").matcher(text);
    check(!loops.find(), "a loop without a counter");
    int start = 0;
    String[] lines = text.split("\n");
    for (int i = 0; i < lines.length; i++) {
      if (lines[i].matches(" {4}(public|private) .*[({]$| {8}\\S.*\\) \\{$") || lines[i].matches(" {4}(public|private) .*\\).*")) start = i;
      if (lines[i].matches(" {4}}| {8}}")) check(i - start <= 60, "long method that ends in line " + (i + 1));
    }
  }

  public static void main(String[] args) throws Exception {
    face();
    text();
    System.out.println(wrong == 0 ? "the rules are kept" : wrong + " rules are not kept");
    if (wrong != 0) System.exit(1);
  }
}
