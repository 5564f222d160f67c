/** What the tests by hand have in common: a call, the answer that is due, and how many were not as due. */
public class Answers {
  interface Call { long answer(); }
  interface On { long answer(HallDiary x); }
  interface Recipe { HallDiary made(); }

  static final int MIN = Integer.MIN_VALUE;
  static final int MAX = Integer.MAX_VALUE;
  static final long OUT_OF_BOUNDS = -1001;
  static final long WRONG_ARGUMENT = -1002;
  static final long WRONG_STATE = -1003;
  static final long OTHER_EXCEPTION = -1004;
  static int wrong = 0;
  static int asked = 0;
  static String about = "";

  static long told(Call call) {
    try {
      return call.answer();
    } catch (RuntimeException e) {
      Class<?> kind = e.getClass();
      return kind == IndexOutOfBoundsException.class ? OUT_OF_BOUNDS
          : kind == IllegalArgumentException.class ? WRONG_ARGUMENT
          : kind == IllegalStateException.class ? WRONG_STATE : OTHER_EXCEPTION;
    }
  }

  static void due(long want, Call call) {
    asked++;
    long got = told(call);
    if (got == want) return;
    wrong++;
    System.out.println(about + ", line " + lineOfTest() + ": answered " + got + ", due is " + want);
  }

  static int lineOfTest() {
    for (StackTraceElement e : new Throwable().getStackTrace()) {
      if (!e.getClassName().startsWith("Answers")) return e.getLineNumber();
    }
    return 0;
  }

  /** A call that must throw, and must leave everything that digest tells as it was. */
  static void refused(HallDiary x, long want, Call call) {
    long before = x.digest();
    due(want, call);
    due(before, () -> x.digest());
  }

  /** The same with all that there is: what an object holds after such a call is what it holds without it. */
  static void changesNothing(Recipe recipe, long want, On call) {
    HallDiary x = recipe.made();
    due(want, () -> call.answer(x));
    holdsTheSame(x, recipe.made());
  }

  static void holdsTheSame(HallDiary x, HallDiary other) {
    String left = everything(x);
    String right = everything(other);
    due(0, () -> left.equals(right) ? 0 : 1);
  }

  /** What the looks tell, then the states behind it: the saved ones, the newest first, and the snapshot. It uses the object up. */
  static String everything(HallDiary x) {
    StringBuilder s = new StringBuilder("now " + x.digest() + ":");
    for (int day = 0; day < 84; day++) {
      for (int hall = 0; hall < 3; hall++) s.append(' ').append(x.hallOf(hall, day, 3));
    }
    for (long left = told(() -> x.undo()); left != WRONG_STATE; left = told(() -> x.undo())) {
      s.append(" saved ").append(x.digest());
    }
    s.append(" kept ").append(told(() -> x.restore()) == WRONG_STATE ? "nothing" : "" + x.digest());
    return s.append(' ').append(x.firstError()).append(' ').append(x.clearBuffer()).toString();
  }

  /** Which sentence of the document the calls after this one are about. */
  static void says(String sentence) {
    about = '"' + sentence + '"';
  }

  static int[] from(int lowest, int highest) {
    int[] all = new int[highest - lowest + 1];
    for (int i = 0; i < all.length; i++) all[i] = lowest + i;
    return all;
  }

  static void type(HallDiary x, String text) {
    x.clearBuffer();
    for (int i = 0; i < text.length(); i++) x.append(text.charAt(i));
  }

  static int letsOf(HallDiary x, String text) {
    type(x, text);
    return x.lets();
  }

  static HallDiary fullOfSingles() {
    HallDiary x = new HallDiary();
    for (int i = 0; i < 12; i++) x.single(0, 2 * i, 10, 12, 1, i);
    return x;
  }

  static void tellAndEnd() {
    System.out.println(wrong == 0 ? asked + " answers are as due" : wrong + " answers are not as due");
    if (wrong != 0) System.exit(1);
  }
}
