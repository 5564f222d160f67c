/** Every promise by hand: ordinary calls, the edges that the document names, and wrong arguments. */
public final class PromisesTest extends Answers {
  public static void main(String[] args) {
    aNewObject();
    regular();
    regularOnItsDays();
    single();
    singleCleaned();
    cancel();
    off();
    rate();
    set();
    append();
    clearBuffer();
    firstError();
    lets();
    undo();
    keepAndRestore();
    regularOf();
    singleOf();
    who();
    hallOf();
    tenant();
    count();
    refusal();
    price();
    nextFree();
    best();
    fullnessAndMeanRent();
    digest();
    tellAndEnd();
  }

  static void aNewObject() {
    about = "promise 1";
    HallDiary x = new HallDiary();
    due(-1, () -> HallDiary.NONE);
    int[] counts = {0, 0, 0, 0, 0, 0, 0, 1, 20, 50, 0, 11, 0};
    for (int i = 0; i < counts.length; i++) {
      int what = i;
      due(counts[what], () -> x.count(what));
    }
    due(1000, () -> x.price(0, 0, 0, 1));
    due(1500, () -> x.price(1, 0, 0, 1));
    due(2500, () -> x.price(2, 0, 0, 1));
    due(0, () -> x.firstError());
    due(0, () -> x.clearBuffer());
    due(WRONG_STATE, () -> x.undo());
    due(WRONG_STATE, () -> x.restore());
    due(-1, () -> x.best());
  }

  static void regular() {
    about = "promise 2";
    HallDiary x = new HallDiary();
    int min = Integer.MIN_VALUE;
    int max = Integer.MAX_VALUE;
    for (int bad : new int[] {-1, 3, min, max}) refused(x, OUT_OF_BOUNDS, () -> x.regular(bad, 9, 9, 9, 99, 99));
    for (int bad : new int[] {-1, 7, min, max}) refused(x, WRONG_ARGUMENT, () -> x.regular(0, bad, 1, 2, 1, 0));
    for (int bad : new int[] {-1, 24, min, max}) refused(x, WRONG_ARGUMENT, () -> x.regular(0, 0, bad, 24, 1, 0));
    for (int bad : new int[] {-1, 5, 4, 25, min, max}) refused(x, WRONG_ARGUMENT, () -> x.regular(0, 0, 5, bad, 1, 0));
    for (int bad : new int[] {-1, 0, 10, min, max}) refused(x, WRONG_ARGUMENT, () -> x.regular(0, 0, 5, 6, bad, 0));
    for (int bad : new int[] {-1, 20, min, max}) refused(x, WRONG_ARGUMENT, () -> x.regular(0, 0, 5, 6, 1, bad));
    due(12, () -> x.regular(0, 0, 0, 1, 1, 0));
    due(12, () -> x.regular(2, 6, 23, 24, 9, 19));
    due(3000, () -> x.regularOf(1, 6));
    due(12 * 800 + 12 * 3000, () -> x.count(4));
    x.set(3, 2);
    x.set(4, 2);
    due(1, () -> x.regular(1, 3, 10, 20, 5, 5));
    due(17, () -> x.regularOf(2, 10));
    x.set(4, 4);
    for (int i = 0; i < 5; i++) {
      int weekday = i;
      due(3, () -> x.regular(2, weekday, 8, 9, 5, 5));
    }
    due(8, () -> x.count(0));
    refused(x, WRONG_STATE, () -> x.regular(2, 5, 8, 9, 9, 5));
    refused(x, WRONG_ARGUMENT, () -> x.regular(2, 5, 8, 9, 9, 20));
    refused(x, OUT_OF_BOUNDS, () -> x.regular(3, 5, 8, 9, 9, 5));
    x.cancel(true, 0);
    due(3, () -> x.regular(2, 5, 12, 13, 9, 5));
  }

  static void regularOnItsDays() {
    about = "promise 2";
    HallDiary x = new HallDiary();
    x.single(0, 0, 10, 12, 5, 1);
    x.single(0, 7, 10, 12, 4, 2);
    x.single(0, 14, 13, 14, 4, 3);
    x.single(0, 14, 8, 9, 4, 3);
    x.single(1, 21, 11, 13, 9, 4);
    x.single(1, 28, 10, 12, 9, 4);
    x.single(0, 28, 13, 14, 9, 4);
    // Off on day 0 (rank 5 against 5); the let of day 7 gives way; those of day 14 are an hour away;
    // on day 28 the cleaner does hall 0 first, in time for its next let.
    due(11, () -> x.regular(0, 0, 10, 12, 5, 6));
    due(1, () -> x.count(6));
    due(6, () -> x.count(1));
    due(2000, () -> x.count(5));
    due(7, () -> x.regularOf(0, 10));
    due(-1, () -> x.who(0, 0, 9));
    due(1, () -> x.who(0, 0, 10));
    due(6, () -> x.who(0, 7, 10));
    HallDiary y = new HallDiary();
    y.single(0, 3, 8, 10, 9, 1);
    y.single(1, 3, 11, 12, 9, 1);
    y.single(1, 10, 8, 10, 9, 1);
    // Off on day 3, as the cleaner does hall 0 from 10 to 11 and hall 1 too late; and off on day 10 by a clash.
    due(10, () -> y.regular(1, 3, 9, 10, 1, 2));
    due(0, () -> y.count(6));
    due(17, () -> y.regularOf(0, 10));
    y.undo();
    y.set(4, 1);
    refused(y, WRONG_STATE, () -> y.regular(1, 3, 9, 10, 1, 2));
    // The twelve single lets are no reason against a regular one.
    HallDiary z = fullOfSingles();
    due(12, () -> z.regular(0, 0, 10, 12, 2, 3));
    due(10, () -> z.count(1));
    due(2, () -> z.count(6));
    HallDiary w = fullOfSingles();
    due(10, () -> w.regular(0, 0, 10, 12, 1, 3));
    // A regular let gives way to another on single days, as off: it stays with what is left.
    HallDiary v = new HallDiary();
    v.regular(1, 4, 10, 12, 3, 1);
    v.set(3, 10);
    due(2, () -> v.regular(1, 4, 12, 14, 4, 2));
    due(10, () -> v.regularOf(0, 9));
    due(2, () -> v.count(6));
    due(4800, () -> v.count(5));
    v.set(3, 0);
    due(12, () -> v.regular(1, 4, 11, 13, 9, 3));
    due(0, () -> v.regularOf(0, 9));
    due(-1, () -> v.regularOf(0, 10));
    due(3, () -> v.count(0));
  }

  static void single() {
    about = "promise 3";
    HallDiary x = new HallDiary();
    int min = Integer.MIN_VALUE;
    int max = Integer.MAX_VALUE;
    for (int bad : new int[] {-1, 3, min, max}) refused(x, OUT_OF_BOUNDS, () -> x.single(bad, 99, 9, 9, 99, 99));
    for (int bad : new int[] {-1, 84, min, max}) refused(x, WRONG_ARGUMENT, () -> x.single(0, bad, 1, 2, 1, 0));
    for (int bad : new int[] {-1, 24, min, max}) refused(x, WRONG_ARGUMENT, () -> x.single(0, 0, bad, 24, 1, 0));
    for (int bad : new int[] {-1, 5, 4, 25, min, max}) refused(x, WRONG_ARGUMENT, () -> x.single(0, 0, 5, bad, 1, 0));
    for (int bad : new int[] {-1, 0, 10, min, max}) refused(x, WRONG_ARGUMENT, () -> x.single(0, 0, 5, 6, bad, 0));
    for (int bad : new int[] {-1, 20, min, max}) refused(x, WRONG_ARGUMENT, () -> x.single(0, 0, 5, 6, 1, bad));
    due(0, () -> x.single(0, 83, 23, 24, 9, 19));
    due(1500, () -> x.count(4));
    due(0, () -> x.single(0, 9, 10, 12, 5, 1));
    refused(x, WRONG_STATE, () -> x.single(0, 9, 12, 13, 5, 2));
    refused(x, WRONG_STATE, () -> x.single(0, 9, 8, 10, 5, 2));
    due(0, () -> x.single(0, 9, 13, 14, 5, 2));
    due(0, () -> x.single(0, 9, 8, 9, 5, 3));
    due(0, () -> x.single(1, 9, 10, 12, 1, 4));
    x.regular(0, 2, 15, 17, 5, 7);
    // From 9 to 16 all four of the hall are met; hall 1 is not.
    refused(x, WRONG_STATE, () -> x.single(0, 9, 9, 16, 5, 8));
    due(4, () -> x.single(0, 9, 9, 16, 6, 8));
    due(4, () -> x.count(6));
    due(3, () -> x.count(1));
    due(2000 + 1000 + 1000 + 1600, () -> x.count(5));
    due(11, () -> x.regularOf(0, 9));
    due(4, () -> x.singleOf(1, 5));
    due(8, () -> x.singleOf(2, 5));
    HallDiary y = fullOfSingles();
    refused(y, WRONG_STATE, () -> y.single(2, 80, 1, 2, 9, 0));
    refused(y, WRONG_STATE, () -> y.single(0, 0, 10, 12, 9, 0));
    refused(y, WRONG_ARGUMENT, () -> y.single(0, 84, 10, 12, 9, 0));
    y.cancel(false, 0);
    due(1, () -> y.single(0, 2, 10, 12, 9, 0));
  }

  static void singleCleaned() {
    about = "promise 3";
    HallDiary x = new HallDiary();
    x.single(0, 5, 8, 10, 9, 0);
    x.single(1, 5, 11, 14, 9, 1);
    // Behind 10 the cleaner does hall 0 first and hall 1 from 11 to 12.
    refused(x, WRONG_STATE, () -> x.single(1, 5, 8, 10, 9, 2));
    due(0, () -> x.single(2, 5, 8, 10, 9, 2));
    // A let that gives way is not cleaned any more, so the cleaner is free for hall 1 in time.
    HallDiary y = new HallDiary();
    y.single(0, 5, 8, 10, 1, 0);
    y.single(1, 5, 11, 14, 9, 1);
    y.single(0, 5, 13, 15, 1, 2);
    refused(y, WRONG_STATE, () -> y.single(1, 5, 8, 10, 9, 3));
    due(2, () -> y.single(0, 5, 10, 13, 2, 3));
    due(0, () -> y.single(1, 5, 8, 10, 9, 4));
    due(4, () -> y.singleOf(2, 5));
    // Hall 1 is clean at 7, as the cleaner does hall 0 first.
    HallDiary z = new HallDiary();
    z.single(0, 6, 1, 5, 9, 1);
    z.single(1, 6, 1, 5, 9, 1);
    z.single(2, 6, 9, 12, 9, 1);
    refused(z, WRONG_STATE, () -> z.single(1, 6, 6, 7, 9, 2));
    due(0, () -> z.single(1, 6, 7, 8, 9, 2));
  }

  static void cancel() {
    about = "promise 4";
    HallDiary x = new HallDiary();
    refused(x, OUT_OF_BOUNDS, () -> x.cancel(true, 0));
    refused(x, OUT_OF_BOUNDS, () -> x.cancel(false, 0));
    x.single(0, 0, 1, 2, 1, 4);
    x.single(1, 0, 1, 3, 1, 5);
    x.single(2, 0, 1, 4, 1, 6);
    x.regular(0, 6, 1, 3, 1, 7);
    x.regular(1, 6, 1, 3, 1, 8);
    x.off(0, 6);
    for (int bad : new int[] {-1, 3, Integer.MIN_VALUE, Integer.MAX_VALUE}) refused(x, OUT_OF_BOUNDS, () -> x.cancel(false, bad));
    for (int bad : new int[] {-1, 2, Integer.MIN_VALUE, Integer.MAX_VALUE}) refused(x, OUT_OF_BOUNDS, () -> x.cancel(true, bad));
    due(3000, () -> x.cancel(false, 1));
    due(6, () -> x.singleOf(1, 5));
    x.rate(0, 5000);
    due(11 * 2400, () -> x.cancel(true, 0));
    due(8, () -> x.regularOf(0, 5));
    due(1, () -> x.count(0));
    due(2, () -> x.count(1));
    due(2400 + 3000 + 11 * 2400, () -> x.count(5));
    due(0, () -> x.count(6));
    x.undo();
    due(7, () -> x.regularOf(0, 5));
    due(2400 + 3000, () -> x.count(5));
    // A let without days is still there to be cancelled, for nothing.
    HallDiary y = new HallDiary();
    y.set(4, 0);
    y.regular(0, 0, 1, 2, 1, 1);
    y.off(0, 0);
    due(0, () -> y.cancel(true, 0));
    due(0, () -> y.count(0));
  }

  static void off() {
    about = "promise 5";
    HallDiary x = new HallDiary();
    refused(x, OUT_OF_BOUNDS, () -> x.off(0, 99));
    x.regular(0, 5, 10, 12, 5, 3);
    for (int bad : new int[] {-1, 1, Integer.MIN_VALUE, Integer.MAX_VALUE}) refused(x, OUT_OF_BOUNDS, () -> x.off(bad, 5));
    for (int bad : new int[] {-1, 84, Integer.MIN_VALUE, Integer.MAX_VALUE}) refused(x, WRONG_ARGUMENT, () -> x.off(0, bad));
    refused(x, WRONG_STATE, () -> x.off(0, 4));
    x.set(2, 0);
    due(2400, () -> x.off(0, 5));
    refused(x, WRONG_STATE, () -> x.off(0, 5));
    due(2400, () -> x.off(0, 82));
    due(10, () -> x.regularOf(0, 9));
    due(12, () -> x.regularOf(0, 10));
    due(4800, () -> x.count(5));
    due(12 * 2400, () -> x.count(4));
    due(0, () -> x.count(6));
    due(3, () -> x.undo());
    due(11, () -> x.regularOf(0, 9));
    HallDiary y = new HallDiary();
    y.set(3, 4);
    y.set(4, 5);
    y.regular(0, 1, 10, 12, 5, 3);
    refused(y, WRONG_STATE, () -> y.off(0, 1));
    refused(y, WRONG_STATE, () -> y.off(0, 43));
    due(1600, () -> y.off(0, 36));
  }

  static void rate() {
    about = "promise 6";
    HallDiary x = new HallDiary();
    x.single(0, 0, 1, 3, 1, 1);
    for (int bad : new int[] {-1, 3, Integer.MIN_VALUE, Integer.MAX_VALUE}) refused(x, OUT_OF_BOUNDS, () -> x.rate(bad, 0));
    for (int bad : new int[] {-1, 0, 99, 5001, Integer.MIN_VALUE, Integer.MAX_VALUE}) refused(x, WRONG_ARGUMENT, () -> x.rate(0, bad));
    due(1000, () -> x.rate(0, 100));
    due(1500, () -> x.rate(1, 5000));
    due(2500, () -> x.rate(2, 2500));
    due(100, () -> x.rate(0, 101));
    due(5, () -> x.count(12));
    due(202, () -> x.price(0, 0, 1, 3));
    due(2000, () -> x.singleOf(0, 6));
    due(2000, () -> x.count(3));
    due(4, () -> x.undo());
    due(200, () -> x.price(0, 0, 1, 3));
  }

  static void set() {
    about = "promise 7";
    HallDiary x = new HallDiary();
    for (int bad : new int[] {-1, 5, Integer.MIN_VALUE, Integer.MAX_VALUE}) refused(x, OUT_OF_BOUNDS, () -> x.set(bad, 0));
    int[] most = {4, 50, 100, 11, 11};
    for (int i = 0; i < 5; i++) {
      int s = i;
      for (int bad : new int[] {-1, most[i] + 1, Integer.MIN_VALUE, Integer.MAX_VALUE}) refused(x, WRONG_ARGUMENT, () -> x.set(s, bad));
    }
    due(1, () -> x.set(0, 4));
    due(4, () -> x.set(0, 0));
    due(20, () -> x.set(1, 50));
    due(50, () -> x.set(1, 0));
    due(50, () -> x.set(2, 100));
    due(100, () -> x.set(2, 0));
    due(0, () -> x.set(3, 11));
    due(11, () -> x.set(4, 11));
    refused(x, WRONG_STATE, () -> x.set(4, 10));
    due(11, () -> x.set(3, 5));
    due(11, () -> x.set(4, 5));
    refused(x, WRONG_STATE, () -> x.set(3, 6));
    refused(x, WRONG_STATE, () -> x.set(4, 4));
    due(6, () -> x.count(12));
    // Two hours between lets of a hall: not three of cleaning.
    HallDiary y = new HallDiary();
    y.single(0, 80, 8, 10, 1, 1);
    y.single(0, 80, 12, 13, 1, 1);
    refused(y, WRONG_STATE, () -> y.set(0, 3));
    due(1, () -> y.set(0, 2));
    due(2, () -> y.set(0, 2));
    HallDiary v = new HallDiary();
    v.single(0, 0, 8, 10, 1, 1);
    v.single(0, 0, 12, 13, 1, 1);
    refused(v, WRONG_STATE, () -> v.set(0, 3));
    // The lets clash with no hour, but two halls wait for one cleaner.
    HallDiary z = new HallDiary();
    z.regular(0, 1, 8, 10, 1, 1);
    z.regular(1, 1, 8, 10, 1, 1);
    z.regular(1, 1, 13, 14, 1, 1);
    refused(z, WRONG_STATE, () -> z.set(0, 2));
    for (int w = 0; w < 12; w++) z.off(2, 1 + 7 * w);
    due(1, () -> z.set(0, 2));
    // What was reckoned stays.
    HallDiary w = new HallDiary();
    w.regular(0, 5, 8, 10, 1, 1);
    w.set(1, 0);
    w.set(2, 0);
    w.set(4, 3);
    due(2400, () -> w.regularOf(0, 6));
    due(12, () -> w.regularOf(0, 9));
    due(11, () -> w.regularOf(0, 8));
    due(4, () -> w.regular(1, 5, 8, 10, 1, 1));
    due(3000, () -> w.regularOf(1, 6));
  }

  static void append() {
    about = "promise 8";
    HallDiary x = new HallDiary();
    for (int bad : new int[] {32, 127, 0, -1, Integer.MIN_VALUE, Integer.MAX_VALUE}) refused(x, WRONG_ARGUMENT, () -> x.append(bad));
    due(1, () -> x.append(33));
    due(2, () -> x.append(126));
    for (int i = 2; i < 60; i++) {
      int n = i;
      due(n + 1, () -> x.append(48));
    }
    refused(x, WRONG_STATE, () -> x.append(48));
    refused(x, WRONG_ARGUMENT, () -> x.append(32));
    due(0, () -> x.count(12));
  }

  static void clearBuffer() {
    about = "promise 9";
    HallDiary x = new HallDiary();
    type(x, "0:1");
    due(3, () -> x.clearBuffer());
    due(0, () -> x.clearBuffer());
    due(1, () -> x.append(48));
    for (int i = 1; i < 60; i++) x.append(126);
    due(60, () -> x.clearBuffer());
    due(0, () -> x.firstError());
    due(0, () -> x.count(12));
  }

  static void firstError() {
    about = "promise 10";
    HallDiary x = new HallDiary();
    String good = "2:83,23-24*9@19;0:0,0-1*1@0;1:79,19-20*5@10";
    for (int i = 0; i <= good.length(); i++) {
      int n = i;
      type(x, good.substring(0, n));
      due(n, () -> x.firstError());
    }
    String[] texts = {"3", "-", ":", "00", "0:8,", "0:84", "0:90", "0:00", "0:123", "0:,", "0:5,24", "0:5,00", "0:5,30", "0:5,20-25",
        "0:5,2-0", "0:5,2-30", "0:5,2-3*0", "0:5,2-3*10", "0:5,2-3*1@20", "0:5,2-3*1@00", "0:5,2-3*1@190", "0:5,2-3*1@;",
        "0:5,2-3*1@1;;", "0:5,2-3*1@1,", ";", "0;", "0:5,2-3@", "0:5,2-3*1@1;3", "x0:5", "0:5,9-9*1@1", "0:0,0-1*@"};
    int[] errors = {0, 0, 0, 1, 4, 3, 3, 3, 4, 2, 5, 5, 5, 8, 6, 7, 8, 9, 11, 11, 12, 10, 12, 11, 0, 1, 7, 12, 0, 11, 8};
    for (int i = 0; i < texts.length; i++) {
      int want = errors[i];
      type(x, texts[i]);
      due(want, () -> x.firstError());
    }
  }

  static void lets() {
    about = "promise 11";
    HallDiary x = new HallDiary();
    String whole = "0:5,9-12*1@2";
    refused(x, WRONG_ARGUMENT, () -> x.lets());
    for (int i = 1; i < whole.length(); i++) {
      type(x, whole.substring(0, i));
      refused(x, WRONG_ARGUMENT, () -> x.lets());
    }
    type(x, whole + ";");
    refused(x, WRONG_ARGUMENT, () -> x.lets());
    type(x, whole + "x");
    refused(x, WRONG_ARGUMENT, () -> x.lets());
    due(13, () -> x.clearBuffer());
    due(1, () -> letsOf(x, whole));
    due(0, () -> x.clearBuffer());
    due(4500, () -> x.singleOf(0, 6));
    // The second clashes with the first, the third drives the first off, the fourth has no hours.
    due(2, () -> letsOf(x, "1:9,8-9*3@4;1:9,9-10*3@5;1:9,9-10*4@6;1:8,5-5*9@1"));
    due(2, () -> x.count(1));
    due(1, () -> x.count(6));
    due(6, () -> x.singleOf(1, 5));
    due(2, () -> x.count(12));
    due(1, () -> x.undo());
    due(1, () -> x.count(1));
    due(0, () -> letsOf(x, "0:1,5-4*1@2;0:1,5-5*1@2"));
    due(2, () -> x.count(12));
    due(0, () -> x.clearBuffer());
    HallDiary y = fullOfSingles();
    due(0, () -> letsOf(y, "2:80,1-2*9@0"));
    y.cancel(false, 11);
    due(1, () -> letsOf(y, "2:80,1-2*9@0;2:81,1-2*9@0"));
    // A text that fills the buffer.
    HallDiary w = new HallDiary();
    due(4, () -> letsOf(w, "0:10,10-12*1@10;0:11,9-12*1@10;0:12,9-12*1@10;0:13,9-12*1@19"));
    due(19, () -> w.singleOf(3, 5));
    // Days could not be cleaned.
    HallDiary z = new HallDiary();
    due(2, () -> letsOf(z, "0:5,8-10*9@0;1:5,11-14*9@1;1:5,8-10*9@2"));
  }

  static void undo() {
    about = "promise 12";
    HallDiary x = new HallDiary();
    due(WRONG_STATE, () -> x.undo());
    long start = x.digest();
    x.single(0, 0, 1, 2, 1, 1);
    due(0, () -> x.undo());
    due(start, () -> x.digest());
    refused(x, WRONG_STATE, () -> x.undo());
    for (int i = 0; i < 8; i++) x.single(0, i, 1, 2, 1, i);
    due(6, () -> x.count(12));
    x.append(50);
    for (int i = 5; i >= 0; i--) {
      int left = i;
      due(left, () -> x.undo());
      due(left + 2, () -> x.count(1));
    }
    due(WRONG_STATE, () -> x.undo());
    due(2000, () -> x.count(4));
    due(1, () -> x.clearBuffer());
    // Each kind of undoable call, one by one, also one that changes nothing.
    HallDiary y = new HallDiary();
    y.single(0, 0, 1, 2, 1, 1);
    y.regular(1, 0, 1, 2, 1, 1);
    y.keep();
    Call[] calls = {() -> y.single(2, 3, 1, 9, 1, 1), () -> y.regular(2, 3, 1, 9, 1, 1), () -> y.cancel(true, 0),
        () -> y.cancel(false, 0), () -> y.off(0, 0), () -> y.rate(0, 1000), () -> y.rate(1, 999), () -> y.set(0, 1),
        () -> y.set(0, 2), () -> y.set(1, 3), () -> y.set(2, 3), () -> y.set(3, 3), () -> y.set(4, 4), () -> y.restore(),
        () -> letsOf(y, "0:5,9-12*1@2")};
    for (Call call : calls) {
      long before = y.digest();
      call.answer();
      due(3, () -> y.count(12));
      due(2, () -> y.undo());
      due(before, () -> y.digest());
    }
    y.append(50);
    y.clearBuffer();
    y.keep();
    due(2, () -> y.count(12));
  }

  static void keepAndRestore() {
    about = "promise 13";
    HallDiary x = new HallDiary();
    refused(x, WRONG_STATE, () -> x.restore());
    due(0, () -> x.keep());
    due(0, () -> x.count(12));
    x.single(0, 0, 1, 2, 1, 1);
    x.regular(1, 0, 1, 2, 1, 1);
    x.rate(2, 100);
    x.set(2, 7);
    due(2, () -> x.keep());
    x.cancel(false, 0);
    x.cancel(true, 0);
    x.rate(2, 200);
    x.set(2, 8);
    about = "promise 14";
    x.append(50);
    due(2, () -> x.restore());
    due(6, () -> x.count(12));
    due(7, () -> x.count(9));
    due(100, () -> x.price(2, 0, 1, 2));
    due(0, () -> x.count(5));
    due(1, () -> x.clearBuffer());
    due(5, () -> x.undo());
    due(8, () -> x.count(9));
    due(0, () -> x.count(0));
    due(2, () -> x.restore());
    x.off(0, 0);
    due(2, () -> x.restore());
    due(12, () -> x.regularOf(0, 9));
    // In place of the one before.
    x.cancel(true, 0);
    due(1, () -> x.keep());
    x.cancel(false, 0);
    due(1, () -> x.restore());
    due(0, () -> x.count(0));
    x.undo();
    due(0, () -> x.keep());
    due(0, () -> x.restore());
    about = "promise 13";
    HallDiary y = new HallDiary();
    y.keep();
    y.single(0, 0, 1, 2, 1, 1);
    y.undo();
    y.single(0, 0, 1, 2, 1, 1);
    due(0, () -> y.restore());
    due(0, () -> y.count(4));
  }

  static void regularOf() {
    about = "promise 15";
    HallDiary x = new HallDiary();
    refused(x, OUT_OF_BOUNDS, () -> x.regularOf(0, 99));
    x.set(3, 1);
    x.set(4, 8);
    x.single(2, 13, 20, 21, 9, 4);
    x.regular(2, 6, 20, 23, 8, 17);
    int[] want = {2, 6, 20, 23, 8, 17, 9000, 1, 8, 7, 20};
    for (int i = 0; i < want.length; i++) {
      int what = i;
      due(want[what], () -> x.regularOf(0, what));
    }
    for (int bad : new int[] {-1, 1, Integer.MIN_VALUE, Integer.MAX_VALUE}) refused(x, OUT_OF_BOUNDS, () -> x.regularOf(bad, 0));
    for (int bad : new int[] {-1, 11, Integer.MIN_VALUE, Integer.MAX_VALUE}) refused(x, WRONG_ARGUMENT, () -> x.regularOf(0, bad));
    x.rate(2, 333);
    x.set(1, 7);
    x.regular(2, 5, 1, 2, 1, 0);
    // 333 * 93 / 100 is 309, times 150 / 100 is 463.
    due(463, () -> x.regularOf(1, 6));
    x.set(3, 0);
    x.regular(0, 0, 0, 1, 1, 0);
    due(0, () -> x.regularOf(2, 10));
    due(12, () -> x.regularOf(1, 10));
  }

  static void singleOf() {
    about = "promise 16";
    HallDiary x = new HallDiary();
    refused(x, OUT_OF_BOUNDS, () -> x.singleOf(0, 99));
    x.single(1, 83, 21, 24, 6, 18);
    int[] want = {1, 83, 21, 24, 6, 18, 6750};
    for (int i = 0; i < want.length; i++) {
      int what = i;
      due(want[what], () -> x.singleOf(0, what));
    }
    for (int bad : new int[] {-1, 1, Integer.MIN_VALUE, Integer.MAX_VALUE}) refused(x, OUT_OF_BOUNDS, () -> x.singleOf(bad, 0));
    for (int bad : new int[] {-1, 7, Integer.MIN_VALUE, Integer.MAX_VALUE}) refused(x, WRONG_ARGUMENT, () -> x.singleOf(0, bad));
  }

  static void who() {
    about = "promise 17";
    HallDiary x = new HallDiary();
    x.regular(1, 3, 10, 12, 5, 7);
    x.single(1, 10, 13, 14, 5, 0);
    x.off(0, 17);
    x.single(2, 0, 0, 1, 5, 13);
    x.single(2, 0, 23, 24, 5, 14);
    due(13, () -> x.who(2, 0, 0));
    due(14, () -> x.who(2, 0, 23));
    int[] want = {-1, 7, 7, -1, 0, -1};
    for (int i = 0; i < want.length; i++) {
      int hour = 9 + i;
      due(want[i], () -> x.who(1, 10, hour));
      due(-1, () -> x.who(0, 10, hour));
      due(-1, () -> x.who(1, 17, hour));
      due(-1, () -> x.who(1, 11, hour));
    }
    for (int bad : new int[] {-1, 3, Integer.MIN_VALUE, Integer.MAX_VALUE}) refused(x, OUT_OF_BOUNDS, () -> x.who(bad, 99, 99));
    for (int bad : new int[] {-1, 84, Integer.MIN_VALUE, Integer.MAX_VALUE}) refused(x, WRONG_ARGUMENT, () -> x.who(0, bad, 0));
    for (int bad : new int[] {-1, 24, Integer.MIN_VALUE, Integer.MAX_VALUE}) refused(x, WRONG_ARGUMENT, () -> x.who(0, 0, bad));
  }

  static void hallOf() {
    about = "promise 18";
    HallDiary x = new HallDiary();
    x.regular(1, 5, 10, 12, 5, 7);
    x.single(1, 12, 13, 24, 5, 0);
    x.single(0, 12, 0, 1, 5, 0);
    int[] want = {2, 11, 11, 3600 + 24750};
    for (int i = 0; i < 4; i++) {
      int what = i;
      due(want[what], () -> x.hallOf(1, 12, what));
      due(what == 0 ? 0 : what == 3 ? 0 : 24, () -> x.hallOf(2, 12, what));
      for (int bad : new int[] {-1, 3, Integer.MIN_VALUE, Integer.MAX_VALUE}) refused(x, OUT_OF_BOUNDS, () -> x.hallOf(bad, 99, 99));
      for (int bad : new int[] {-1, 84, Integer.MIN_VALUE, Integer.MAX_VALUE}) refused(x, WRONG_ARGUMENT, () -> x.hallOf(0, bad, what));
    }
    for (int bad : new int[] {-1, 4, Integer.MIN_VALUE, Integer.MAX_VALUE}) refused(x, WRONG_ARGUMENT, () -> x.hallOf(0, 0, bad));
    x.off(0, 12);
    due(1, () -> x.hallOf(1, 12, 0));
    due(13, () -> x.hallOf(1, 12, 1));
    due(13, () -> x.hallOf(1, 12, 2));
    due(24750, () -> x.hallOf(1, 12, 3));
    // A full day, and an empty one: the next.
    HallDiary y = new HallDiary();
    y.single(2, 82, 0, 24, 1, 0);
    int[] full = {1, 0, 0, 90000};
    int[] empty = {0, 24, 24, 0};
    for (int what : from(0, 3)) {
      due(full[what], () -> y.hallOf(2, 82, what));
      due(empty[what], () -> y.hallOf(2, 83, what));
      due(empty[what], () -> y.hallOf(1, 82, what));
    }
  }

  static void tenant() {
    about = "promise 19";
    HallDiary x = new HallDiary();
    x.regular(0, 0, 10, 12, 5, 19);
    x.regular(1, 0, 10, 12, 5, 18);
    x.single(2, 3, 10, 11, 5, 19);
    x.off(0, 0);
    due(2, () -> x.tenant(19, 0));
    due(12, () -> x.tenant(19, 1));
    due(11 * 1600 + 2500, () -> x.tenant(19, 2));
    due(1, () -> x.tenant(18, 0));
    due(0, () -> x.tenant(0, 0));
    x.set(4, 0);
    x.regular(0, 4, 1, 2, 5, 3);
    x.off(2, 4);
    due(1, () -> x.tenant(3, 0));
    due(0, () -> x.tenant(3, 1));
    due(0, () -> x.tenant(3, 2));
    for (int bad : new int[] {-1, 20, Integer.MIN_VALUE, Integer.MAX_VALUE}) refused(x, OUT_OF_BOUNDS, () -> x.tenant(bad, 9));
    for (int bad : new int[] {-1, 3, Integer.MIN_VALUE, Integer.MAX_VALUE}) refused(x, WRONG_ARGUMENT, () -> x.tenant(0, bad));
  }

  static void count() {
    about = "promise 20";
    HallDiary x = new HallDiary();
    x.set(0, 2);
    x.set(1, 10);
    x.set(2, 30);
    x.set(3, 4);
    x.set(4, 6);
    x.regular(0, 5, 10, 12, 5, 1);
    x.regular(1, 0, 10, 12, 5, 1);
    x.off(0, 33);
    x.single(0, 40, 13, 14, 6, 2);
    x.single(0, 40, 13, 14, 7, 2);
    x.single(1, 1, 13, 14, 7, 2);
    // Regular lets of 2340 and 2700 a day; single ones of 1300, 1300 and 1500.
    int[] want = {2, 2, 6, 2340 + 3 * 2700 + 1300 + 1500, 3 * 2340 + 3 * 2700 + 2 * 1300 + 1500, 2340 + 2340 + 1300, 2, 2, 10, 30, 4,
        6, 6};
    for (int i = 0; i < want.length; i++) {
      int what = i;
      due(want[what], () -> x.count(what));
    }
    for (int bad : new int[] {-1, 13, Integer.MIN_VALUE, Integer.MAX_VALUE}) refused(x, WRONG_ARGUMENT, () -> x.count(bad));
  }

  static void refusal() {
    about = "promise 21";
    HallDiary x = new HallDiary();
    x.single(0, 5, 8, 10, 4, 0);
    x.single(1, 5, 11, 14, 6, 1);
    due(0, () -> x.refusal(0, 5, 11, 12, 1));
    due(2, () -> x.refusal(0, 5, 10, 11, 4));
    due(0, () -> x.refusal(0, 5, 10, 11, 5));
    due(3, () -> x.refusal(1, 5, 8, 10, 1));
    due(3, () -> x.refusal(1, 5, 8, 10, 9));
    due(2, () -> x.refusal(1, 5, 8, 11, 6));
    due(0, () -> x.refusal(1, 5, 8, 11, 7));
    due(0, () -> x.refusal(1, 5, 8, 9, 1));
    due(0, () -> x.refusal(1, 6, 8, 10, 1));
    due(2, () -> x.count(12));
    for (int bad : new int[] {-1, 3, Integer.MIN_VALUE, Integer.MAX_VALUE}) refused(x, OUT_OF_BOUNDS, () -> x.refusal(bad, 99, 9, 9, 99));
    for (int bad : new int[] {-1, 84, Integer.MIN_VALUE, Integer.MAX_VALUE}) refused(x, WRONG_ARGUMENT, () -> x.refusal(0, bad, 1, 2, 1));
    for (int bad : new int[] {-1, 24, Integer.MAX_VALUE}) refused(x, WRONG_ARGUMENT, () -> x.refusal(0, 0, bad, 24, 1));
    for (int bad : new int[] {-1, 5, 25, Integer.MIN_VALUE}) refused(x, WRONG_ARGUMENT, () -> x.refusal(0, 0, 5, bad, 1));
    for (int bad : new int[] {-1, 0, 10, Integer.MAX_VALUE}) refused(x, WRONG_ARGUMENT, () -> x.refusal(0, 0, 1, 2, bad));
    // Beyond the hour 24 the cleaner may go on.
    HallDiary y = new HallDiary();
    y.set(0, 4);
    y.single(0, 1, 20, 24, 1, 1);
    due(0, () -> y.refusal(1, 1, 20, 24, 1));
    due(0, () -> y.refusal(0, 2, 0, 1, 1));
    HallDiary z = fullOfSingles();
    due(1, () -> z.refusal(0, 0, 10, 12, 1));
    due(1, () -> z.refusal(2, 80, 10, 12, 9));
    // The cleaner does three halls one after the other, from the first to the last.
    HallDiary w = new HallDiary();
    w.single(1, 0, 1, 5, 1, 1);
    w.single(2, 0, 1, 5, 1, 1);
    w.single(2, 0, 7, 8, 1, 1);
    due(3, () -> w.refusal(0, 0, 1, 5, 9));
    due(0, () -> w.refusal(0, 0, 1, 6, 9));
    due(0, () -> w.refusal(0, 0, 1, 4, 9));
  }

  static void price() {
    about = "promise 22";
    HallDiary x = fullOfSingles();
    due(2000, () -> x.price(0, 0, 10, 12));
    due(2000, () -> x.price(0, 4, 10, 12));
    due(3000, () -> x.price(0, 5, 10, 12));
    due(3000, () -> x.price(0, 83, 10, 12));
    due(36000, () -> x.price(1, 1, 0, 24));
    x.rate(2, 101);
    x.set(2, 33);
    // 101 * 133 / 100 is 134.
    due(134, () -> x.price(2, 6, 0, 1));
    x.rate(2, 5000);
    x.set(2, 100);
    due(240000, () -> x.price(2, 6, 0, 24));
    for (int bad : new int[] {-1, 3, Integer.MIN_VALUE, Integer.MAX_VALUE}) refused(x, OUT_OF_BOUNDS, () -> x.price(bad, 99, 9, 9));
    for (int bad : new int[] {-1, 84, Integer.MIN_VALUE, Integer.MAX_VALUE}) refused(x, WRONG_ARGUMENT, () -> x.price(0, bad, 1, 2));
    for (int bad : new int[] {-1, 24, Integer.MAX_VALUE}) refused(x, WRONG_ARGUMENT, () -> x.price(0, 0, bad, 24));
    for (int bad : new int[] {-1, 5, 25, Integer.MIN_VALUE}) refused(x, WRONG_ARGUMENT, () -> x.price(0, 0, 5, bad));
  }

  static void nextFree() {
    about = "promise 23";
    HallDiary x = new HallDiary();
    due(0, () -> x.nextFree(0, 0, 1));
    due(83 * 24, () -> x.nextFree(2, 83, 24));
    x.single(0, 83, 2, 20, 1, 1);
    due(83 * 24, () -> x.nextFree(0, 83, 1));
    due(83 * 24 + 21, () -> x.nextFree(0, 83, 2));
    due(83 * 24 + 21, () -> x.nextFree(0, 83, 3));
    due(-1, () -> x.nextFree(0, 83, 4));
    due(82 * 24, () -> x.nextFree(0, 82, 24));
    x.single(1, 0, 0, 1, 9, 1);
    due(24, () -> x.nextFree(1, 0, 23));
    due(2, () -> x.nextFree(1, 0, 22));
    // The cleaner keeps hall 0 from being ready for the let at 3.
    HallDiary y = new HallDiary();
    y.single(0, 0, 3, 24, 1, 1);
    due(0, () -> y.nextFree(0, 0, 2));
    y.single(1, 0, 0, 1, 1, 1);
    y.single(2, 0, 0, 1, 1, 1);
    due(24, () -> y.nextFree(0, 0, 2));
    due(0, () -> y.nextFree(0, 0, 1));
    HallDiary z = fullOfSingles();
    due(-1, () -> z.nextFree(2, 0, 1));
    z.cancel(false, 3);
    due(0, () -> z.nextFree(2, 0, 1));
    for (int bad : new int[] {-1, 3, Integer.MIN_VALUE, Integer.MAX_VALUE}) refused(x, OUT_OF_BOUNDS, () -> x.nextFree(bad, 99, 99));
    for (int bad : new int[] {-1, 84, Integer.MIN_VALUE, Integer.MAX_VALUE}) refused(x, WRONG_ARGUMENT, () -> x.nextFree(0, bad, 1));
    for (int bad : new int[] {-1, 0, 25, Integer.MIN_VALUE, Integer.MAX_VALUE}) refused(x, WRONG_ARGUMENT, () -> x.nextFree(0, 0, bad));
    refused(z, WRONG_ARGUMENT, () -> z.nextFree(0, 84, 1));
  }

  static void best() {
    about = "promise 24";
    HallDiary x = new HallDiary();
    x.set(4, 0);
    x.regular(0, 0, 1, 2, 1, 5);
    due(5, () -> x.best());
    x.off(0, 0);
    due(-1, () -> x.best());
    x.single(0, 0, 1, 3, 1, 19);
    due(19, () -> x.best());
    x.single(0, 1, 1, 3, 1, 7);
    due(7, () -> x.best());
    x.single(0, 2, 1, 2, 1, 8);
    due(7, () -> x.best());
    x.single(0, 3, 1, 2, 1, 8);
    x.single(0, 4, 1, 2, 1, 8);
    due(8, () -> x.best());
    x.single(0, 5, 1, 24, 1, 0);
    due(0, () -> x.best());
    // By rents: neither by hours, nor by days, nor by lets, nor by what is paid.
    HallDiary y = new HallDiary();
    y.single(0, 0, 0, 12, 1, 3);
    y.single(2, 0, 7, 12, 1, 4);
    due(4, () -> y.best());
    y.single(0, 1, 10, 11, 1, 3);
    due(3, () -> y.best());
    y.cancel(false, 2);
    due(4, () -> y.best());
    y.rate(0, 100);
    y.regular(0, 1, 1, 2, 1, 2);
    due(4, () -> y.best());
    for (int i = 0; i < 2; i++) y.cancel(false, 0);
    due(2, () -> y.best());
    y.cancel(true, 0);
    due(-1, () -> y.best());
    // The least that a let can cost is 50.
    y.set(1, 50);
    y.set(4, 0);
    y.regular(0, 0, 1, 2, 1, 19);
    due(50, () -> y.count(3));
    due(19, () -> y.best());
  }

  static void fullnessAndMeanRent() {
    about = "promise 25";
    HallDiary x = new HallDiary();
    for (int bad : new int[] {-1, 3, Integer.MIN_VALUE, Integer.MAX_VALUE}) due(OUT_OF_BOUNDS, () -> (long) x.fullness(bad));
    x.regular(0, 0, 1, 4, 1, 5);
    x.off(0, 0);
    x.single(0, 1, 0, 24, 1, 5);
    x.single(1, 1, 0, 1, 1, 5);
    due(Double.doubleToRawLongBits(57.0 / 2016.0), () -> Double.doubleToRawLongBits(x.fullness(0)));
    due(Double.doubleToRawLongBits(1.0 / 2016.0), () -> Double.doubleToRawLongBits(x.fullness(1)));
    due(0, () -> Double.doubleToRawLongBits(x.fullness(2)));
    about = "promise 26";
    float mean = (float) (11 * 2400 + 24000 + 1500) / 84;
    due(Float.floatToRawIntBits(mean), () -> Float.floatToRawIntBits(x.meanRent()));
    due(0, () -> Float.floatToRawIntBits(new HallDiary().meanRent()));
    about = "promise 25";
    HallDiary y = new HallDiary();
    y.set(1, 0);
    y.set(2, 100);
    y.rate(2, 4999);
    for (int d = 0; d < 7; d++) y.regular(2, d, 0, 24, 1, 5);
    due(1, () -> (long) y.fullness(2));
    about = "promise 26";
    due(Float.floatToRawIntBits((float) y.count(3) / 84), () -> Float.floatToRawIntBits(y.meanRent()));
  }

  /** The list of promise 27, out of the class's own answers. */
  static long listed(HallDiary x, int[] rates, String buffer) {
    long h = 3709;
    for (int i = 0; i <= 12; i++) h = 31 * h + x.count(i);
    for (int n = 0; n < x.count(0); n++) for (int i = 0; i <= 10; i++) h = 31 * h + x.regularOf(n, i);
    for (int n = 0; n < x.count(1); n++) for (int i = 0; i <= 6; i++) h = 31 * h + x.singleOf(n, i);
    for (int t = 0; t <= 19; t++) for (int i = 0; i <= 2; i++) h = 31 * h + x.tenant(t, i);
    for (int hall = 0; hall <= 2; hall++) {
      h = 31 * h + rates[hall];
      for (int d = 0; d <= 6; d++) for (int i = 0; i <= 3; i++) h = 31 * h + x.hallOf(hall, d, i);
      h = 31 * h + x.nextFree(hall, 0, 3);
      h = 31 * h + x.refusal(hall, 5, 18, 20, 5);
      h = 31 * h + x.price(hall, 5, 18, 20);
      h = 31 * h + Double.doubleToLongBits(x.fullness(hall));
    }
    h = 31 * h + x.best();
    h = 31 * h + Float.floatToIntBits(x.meanRent());
    h = 31 * h + buffer.length();
    for (int i = 0; i < buffer.length(); i++) h = 31 * h + buffer.charAt(i);
    return h;
  }

  static void digest() {
    about = "promise 27";
    HallDiary x = new HallDiary();
    due(listed(x, new int[] {1000, 1500, 2500}, ""), () -> x.digest());
    x.regular(0, 5, 18, 20, 5, 3);
    x.regular(2, 1, 0, 23, 9, 4);
    x.single(1, 4, 3, 4, 1, 3);
    x.rate(1, 777);
    type(x, "0:!~");
    due(listed(x, new int[] {1000, 777, 2500}, "0:!~"), () -> x.digest());
    for (int hours = 1; hours <= 24; hours++) {
      HallDiary y = new HallDiary();
      y.rate(0, 100 + 201 * hours);
      y.regular(0, hours % 7, 0, hours, 1, 1);
      due(listed(y, new int[] {100 + 201 * hours, 1500, 2500}, ""), () -> y.digest());
    }
    due(x.digest(), () -> x.digest());
    // A day 0 with three free hours but not four, and a day 5 on which the hours and the rank matter.
    HallDiary z = new HallDiary();
    z.single(0, 0, 4, 24, 1, 1);
    z.single(0, 5, 15, 17, 5, 1);
    z.single(0, 5, 21, 22, 9, 1);
    z.single(1, 5, 15, 17, 4, 1);
    z.single(1, 5, 20, 22, 4, 1);
    z.single(2, 5, 15, 18, 5, 1);
    String full = "0:5,9-12*1@2;0:5,9-12*1@2;0:5,9-12*1@2;0:5,9-12*1@2;0:5,9-12";
    type(z, full.substring(0, 60));
    due(0, () -> z.nextFree(0, 0, 3));
    due(24, () -> z.nextFree(0, 0, 4));
    due(0, () -> z.refusal(0, 5, 18, 20, 5));
    due(3, () -> z.refusal(1, 5, 18, 20, 5));
    due(2, () -> z.refusal(2, 5, 18, 20, 5));
    due(listed(z, new int[] {1000, 1500, 2500}, full.substring(0, 60)), () -> z.digest());
    HallDiary w = new HallDiary();
    w.single(0, 5, 20, 21, 5, 1);
    w.single(1, 5, 16, 18, 5, 1);
    w.single(2, 5, 18, 20, 4, 1);
    int[] reasons = {2, 2, 0};
    for (int hall : from(0, 2)) due(reasons[hall], () -> w.refusal(hall, 5, 18, 20, 5));
    due(listed(w, new int[] {1000, 1500, 2500}, ""), () -> w.digest());
    // Of nothing but zeros, NONE and what is at first.
    HallDiary v = new HallDiary();
    v.set(0, 0);
    v.keep();
    for (int i = 0; i < 12; i++) v.single(2, 0, i, i + 1, 9, 19);
    due(listed(v, new int[] {1000, 1500, 2500}, ""), () -> v.digest());
    v.restore();
    due(listed(v, new int[] {1000, 1500, 2500}, ""), () -> v.digest());
  }
}
