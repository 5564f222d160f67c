import java.util.ArrayList;
import java.util.Comparator;
import java.util.List;
import java.util.Random;
import java.util.TreeSet;
import java.util.regex.Matcher;
import java.util.regex.Pattern;

/** Random runs of calls (from fixed seeds) on the class and on a plain model of the document, answer for answer. */
public final class ModelTest {
  static final Pattern TEXT;
  static {
    String part = "[0-2]:([0-9]|[1-7][0-9]|8[0-3]),([0-9]|1[0-9]|2[0-3])-([1-9]|1[0-9]|2[0-4])\\*[1-9]@([0-9]|1[0-9])";
    TEXT = Pattern.compile(part + "(;" + part + ")*");
  }

  record Hire(boolean regular, int hall, int weekday, int from, int to, int rank, int tenant, int rent, int first, int last,
      TreeSet<Integer> days) {
    Hire copy() {
      return new Hire(regular, hall, weekday, from, to, rank, tenant, rent, first, last, new TreeSet<>(days));
    }
    int hours() { return to - from; }
  }

  static final class Model {
    static final class Book {
      List<Hire> regular = new ArrayList<>();
      List<Hire> single = new ArrayList<>();
      int[] rates = {1000, 1500, 2500};
      int[] settings = {1, 20, 50, 0, 11};
      int paid, back, gave;
      Book copy() {
        Book b = new Book();
        for (Hire h : regular) b.regular.add(h.copy());
        for (Hire h : single) b.single.add(h.copy());
        b.rates = rates.clone();
        b.settings = settings.clone();
        b.paid = paid;
        b.back = back;
        b.gave = gave;
        return b;
      }
      List<Hire> all() {
        List<Hire> all = new ArrayList<>(regular);
        all.addAll(single);
        return all;
      }
      List<Hire> on(int day) {
        List<Hire> some = all();
        some.removeIf(h -> !h.days.contains(day));
        return some;
      }
    }

    Book b = new Book();
    Book kept;
    List<Book> saved = new ArrayList<>();
    StringBuilder buffer = new StringBuilder();

    static void range(boolean ok) { if (!ok) throw new IllegalArgumentException(); }
    static void index(boolean ok) { if (!ok) throw new IndexOutOfBoundsException(); }
    static void state(boolean ok) { if (!ok) throw new IllegalStateException(); }
    static boolean in(int v, int a, int z) { return a <= v && v <= z; }

    void save() {
      saved.add(b.copy());
      if (saved.size() > 6) saved.remove(0);
    }

    static boolean clash(Hire x, Hire y, int gap) {
      return x.hall == y.hall && x.from < y.to + gap && y.from < x.to + gap;
    }

    static boolean cleanable(List<Hire> day, int gap) {
      List<Hire> order = new ArrayList<>(day);
      order.sort(Comparator.<Hire>comparingInt(h -> h.to).thenComparingInt(h -> h.hall));
      int over = 0;
      for (Hire h : order) {
        over = Math.max(h.to, over) + gap;
        Hire next = null;
        for (Hire o : day) {
          if (o != h && o.hall == h.hall && o.from >= h.to && (next == null || o.from < next.from)) next = o;
        }
        if (next != null && over > next.from) return false;
      }
      return true;
    }

    int rent(int hall, int weekday, int hours, int percent) {
      int r = hours * b.rates[hall] * percent / 100;
      if (weekday > 4) r = r * (100 + b.settings[2]) / 100;
      return r;
    }

    int reason23(Hire wanted, int day) {
      int gap = b.settings[0];
      List<Hire> rest = new ArrayList<>();
      for (Hire h : b.on(day)) {
        if (!clash(h, wanted, gap)) rest.add(h);
        else if (h.rank >= wanted.rank) return 2;
      }
      rest.add(wanted);
      return cleanable(rest, gap) ? 0 : 3;
    }

    int reason(Hire wanted, int day) { return b.single.size() == 12 ? 1 : reason23(wanted, day); }

    int driveOff(Hire wanted, int day) {
      int n = 0;
      for (Hire h : b.on(day)) {
        if (!clash(h, wanted, b.settings[0])) continue;
        n++;
        b.back += h.rent;
        h.days.remove(day);
      }
      b.single.removeIf(h -> h.days.isEmpty());
      b.gave += n;
      return n;
    }

    Hire one(int hall, int day, int from, int to, int rank, int tenant) {
      return new Hire(false, hall, day % 7, from, to, rank, tenant, rent(hall, day % 7, to - from, 100), 0, 0,
          new TreeSet<>(List.of(day)));
    }

    static void hours(int from, int to) { range(in(from, 0, 23) && to > from && to <= 24); }

    int regular(int hall, int weekday, int from, int to, int rank, int tenant) {
      index(in(hall, 0, 2));
      range(in(weekday, 0, 6));
      hours(from, to);
      range(in(rank, 1, 9) && in(tenant, 0, 19));
      state(b.regular.size() < 8);
      Hire h = new Hire(true, hall, weekday, from, to, rank, tenant, rent(hall, weekday, to - from, 100 - b.settings[1]),
          b.settings[3], b.settings[4], new TreeSet<>());
      Book before = b.copy();
      for (int day = weekday; day < 84; day += 7) {
        if (day / 7 < h.first || day / 7 > h.last || reason23(h, day) != 0) continue;
        driveOff(h, day);
        h.days.add(day);
      }
      state(!h.days.isEmpty());
      b.regular.add(h);
      b.paid += h.rent * h.days.size();
      Book after = b;
      b = before;
      save();
      b = after;
      return h.days.size();
    }

    int single(int hall, int day, int from, int to, int rank, int tenant) {
      index(in(hall, 0, 2));
      range(in(day, 0, 83));
      hours(from, to);
      range(in(rank, 1, 9) && in(tenant, 0, 19));
      Hire h = one(hall, day, from, to, rank, tenant);
      state(reason(h, day) == 0);
      save();
      return put(h, day);
    }

    int put(Hire h, int day) {
      int n = driveOff(h, day);
      b.single.add(h);
      b.paid += h.rent;
      return n;
    }

    int cancel(boolean regular, int number) {
      List<Hire> list = regular ? b.regular : b.single;
      index(in(number, 0, list.size() - 1));
      save();
      Hire h = list.remove(number);
      b.back += h.rent * h.days.size();
      return h.rent * h.days.size();
    }

    int off(int number, int day) {
      index(in(number, 0, b.regular.size() - 1));
      range(in(day, 0, 83));
      state(b.regular.get(number).days.contains(day));
      save();
      Hire h = b.regular.get(number);
      h.days.remove(day);
      b.back += h.rent;
      return h.rent;
    }

    int rate(int hall, int rate) {
      index(in(hall, 0, 2));
      range(in(rate, 100, 5000));
      save();
      int old = b.rates[hall];
      b.rates[hall] = rate;
      return old;
    }

    int set(int setting, int value) {
      index(in(setting, 0, 4));
      range(in(value, 0, new int[] {4, 50, 100, 11, 11}[setting]));
      int[] next = b.settings.clone();
      next[setting] = value;
      state(next[3] <= next[4]);
      for (int day = 0; day < 84; day++) {
        List<Hire> on = b.on(day);
        for (Hire x : on) for (Hire y : on) state(x == y || !clash(x, y, next[0]));
        state(cleanable(on, next[0]));
      }
      save();
      int old = b.settings[setting];
      b.settings = next;
      return old;
    }

    int append(int code) {
      range(in(code, 33, 126));
      state(buffer.length() < 60);
      buffer.append((char) code);
      return buffer.length();
    }

    int clearBuffer() {
      int n = buffer.length();
      buffer.setLength(0);
      return n;
    }

    int firstError() {
      for (int n = 1; n <= buffer.length(); n++) {
        Matcher m = TEXT.matcher(buffer.substring(0, n));
        if (!m.matches() && !m.hitEnd()) return n - 1;
      }
      return buffer.length();
    }

    int lets() {
      range(TEXT.matcher(buffer).matches());
      save();
      int n = 0;
      for (String part : buffer.toString().split(";")) {
        String[] f = part.split("[:,*@-]");
        int[] v = new int[6];
        for (int i = 0; i < 6; i++) v[i] = Integer.parseInt(f[i]);
        if (v[3] <= v[2]) continue;
        Hire h = one(v[0], v[1], v[2], v[3], v[4], v[5]);
        if (reason(h, v[1]) != 0) continue;
        put(h, v[1]);
        n++;
      }
      buffer.setLength(0);
      return n;
    }

    int undo() {
      state(!saved.isEmpty());
      b = saved.remove(saved.size() - 1);
      return saved.size();
    }

    int keep() {
      kept = b.copy();
      return b.all().size();
    }

    int restore() {
      state(kept != null);
      save();
      b = kept.copy();
      return b.all().size();
    }

    int regularOf(int number, int what) {
      index(in(number, 0, b.regular.size() - 1));
      range(in(what, 0, 10));
      Hire h = b.regular.get(number);
      int[] v = {h.hall, h.weekday, h.from, h.to, h.rank, h.tenant, h.rent, h.first, h.last, h.days.size(),
          h.days.isEmpty() ? -1 : h.days.first()};
      return v[what];
    }

    int singleOf(int number, int what) {
      index(in(number, 0, b.single.size() - 1));
      range(in(what, 0, 6));
      Hire h = b.single.get(number);
      int[] v = {h.hall, h.days.first(), h.from, h.to, h.rank, h.tenant, h.rent};
      return v[what];
    }

    int who(int hall, int day, int hour) {
      index(in(hall, 0, 2));
      range(in(day, 0, 83) && in(hour, 0, 23));
      for (Hire h : b.on(day)) if (h.hall == hall && h.from <= hour && hour < h.to) return h.tenant;
      return -1;
    }

    int hallOf(int hall, int day, int what) {
      index(in(hall, 0, 2));
      range(in(day, 0, 83) && in(what, 0, 3));
      List<Hire> on = b.on(day);
      on.removeIf(h -> h.hall != hall);
      int n = 0;
      switch (what) {
        case 0: return on.size();
        case 1: return 24 - on.stream().mapToInt(Hire::hours).sum();
        case 2:
          for (int hour = 0; hour < 24; hour++) if (who(hall, day, hour) == -1) n++;
          return n;
        default: return on.stream().mapToInt(Hire::rent).sum();
      }
    }

    int tenant(int tenant, int what) {
      index(in(tenant, 0, 19));
      range(in(what, 0, 2));
      int[] v = new int[3];
      for (Hire h : b.all()) {
        if (h.tenant != tenant) continue;
        v[0]++;
        v[1] += h.days.size();
        v[2] += h.days.size() * h.rent;
      }
      return v[what];
    }

    int count(int what) {
      range(in(what, 0, 12));
      int days = 0;
      int rents = 0;
      for (int t = 0; t < 20; t++) {
        days += tenant(t, 1);
        rents += tenant(t, 2);
      }
      int[] s = b.settings;
      int[] v = {b.regular.size(), b.single.size(), days, rents, b.paid, b.back, b.gave, s[0], s[1], s[2], s[3], s[4],
          saved.size()};
      return v[what];
    }

    int refusal(int hall, int day, int from, int to, int rank) {
      index(in(hall, 0, 2));
      range(in(day, 0, 83));
      hours(from, to);
      range(in(rank, 1, 9));
      return reason(one(hall, day, from, to, rank, 0), day);
    }

    int price(int hall, int day, int from, int to) {
      index(in(hall, 0, 2));
      range(in(day, 0, 83));
      hours(from, to);
      return rent(hall, day % 7, to - from, 100);
    }

    int nextFree(int hall, int day, int hours) {
      index(in(hall, 0, 2));
      range(in(day, 0, 83) && in(hours, 1, 24));
      for (int t = 24 * day; t < 24 * 84; t++) {
        if (t % 24 + hours <= 24 && refusal(hall, t / 24, t % 24, t % 24 + hours, 1) == 0) return t;
      }
      return -1;
    }

    int best() {
      int best = -1;
      for (int t = 19; t >= 0; t--) if (tenant(t, 2) > 0 && (best < 0 || tenant(t, 2) >= tenant(best, 2))) best = t;
      return best;
    }

    double fullness(int hall) {
      index(in(hall, 0, 2));
      int n = 0;
      for (Hire h : b.all()) if (h.hall == hall) n += h.days.size() * h.hours();
      return (double) n / 2016;
    }

    float meanRent() { return (float) count(3) / 84; }

    long digest() {
      List<Long> v = new ArrayList<>();
      for (int i = 0; i <= 12; i++) v.add((long) count(i));
      for (int n = 0; n < b.regular.size(); n++) for (int i = 0; i <= 10; i++) v.add((long) regularOf(n, i));
      for (int n = 0; n < b.single.size(); n++) for (int i = 0; i <= 6; i++) v.add((long) singleOf(n, i));
      for (int t = 0; t < 20; t++) for (int i = 0; i <= 2; i++) v.add((long) tenant(t, i));
      for (int h = 0; h < 3; h++) {
        v.add((long) b.rates[h]);
        for (int d = 0; d <= 6; d++) for (int i = 0; i <= 3; i++) v.add((long) hallOf(h, d, i));
        v.add((long) nextFree(h, 0, 3));
        v.add((long) refusal(h, 5, 18, 20, 5));
        v.add((long) price(h, 5, 18, 20));
        v.add(Double.doubleToLongBits(fullness(h)));
      }
      v.add((long) best());
      v.add((long) Float.floatToIntBits(meanRent()));
      v.add((long) buffer.length());
      for (int i = 0; i < buffer.length(); i++) v.add((long) buffer.charAt(i));
      long hash = 3709;
      for (long x : v) hash = 31 * hash + x;
      return hash;
    }
  }

  static final String[] NAMES = {"regular", "single", "cancel", "off", "rate", "set", "append", "clearBuffer", "firstError",
      "lets", "undo", "keep", "restore", "regularOf", "singleOf", "who", "hallOf", "tenant", "count", "refusal", "price",
      "nextFree", "best", "fullness", "meanRent", "digest"};

  static String onClass(HallDiary x, int call, int[] a) {
    try {
      switch (call) {
        case 0: return "" + x.regular(a[0], a[1], a[2], a[3], a[4], a[5]);
        case 1: return "" + x.single(a[0], a[1], a[2], a[3], a[4], a[5]);
        case 2: return "" + x.cancel(a[0] == 0, a[1]);
        case 3: return "" + x.off(a[0], a[1]);
        case 4: return "" + x.rate(a[0], a[1]);
        case 5: return "" + x.set(a[0], a[1]);
        case 6: return "" + x.append(a[0]);
        case 7: return "" + x.clearBuffer();
        case 8: return "" + x.firstError();
        case 9: return "" + x.lets();
        case 10: return "" + x.undo();
        case 11: return "" + x.keep();
        case 12: return "" + x.restore();
        case 13: return "" + x.regularOf(a[0], a[1]);
        case 14: return "" + x.singleOf(a[0], a[1]);
        case 15: return "" + x.who(a[0], a[1], a[2]);
        case 16: return "" + x.hallOf(a[0], a[1], a[2]);
        case 17: return "" + x.tenant(a[0], a[1]);
        case 18: return "" + x.count(a[0]);
        case 19: return "" + x.refusal(a[0], a[1], a[2], a[3], a[4]);
        case 20: return "" + x.price(a[0], a[1], a[2], a[3]);
        case 21: return "" + x.nextFree(a[0], a[1], a[2]);
        case 22: return "" + x.best();
        case 23: return "" + x.fullness(a[0]);
        case 24: return "" + x.meanRent();
        default: return "" + x.digest();
      }
    } catch (RuntimeException e) {
      return e.getClass().getSimpleName();
    }
  }

  static String onModel(Model x, int call, int[] a) {
    try {
      switch (call) {
        case 0: return "" + x.regular(a[0], a[1], a[2], a[3], a[4], a[5]);
        case 1: return "" + x.single(a[0], a[1], a[2], a[3], a[4], a[5]);
        case 2: return "" + x.cancel(a[0] == 0, a[1]);
        case 3: return "" + x.off(a[0], a[1]);
        case 4: return "" + x.rate(a[0], a[1]);
        case 5: return "" + x.set(a[0], a[1]);
        case 6: return "" + x.append(a[0]);
        case 7: return "" + x.clearBuffer();
        case 8: return "" + x.firstError();
        case 9: return "" + x.lets();
        case 10: return "" + x.undo();
        case 11: return "" + x.keep();
        case 12: return "" + x.restore();
        case 13: return "" + x.regularOf(a[0], a[1]);
        case 14: return "" + x.singleOf(a[0], a[1]);
        case 15: return "" + x.who(a[0], a[1], a[2]);
        case 16: return "" + x.hallOf(a[0], a[1], a[2]);
        case 17: return "" + x.tenant(a[0], a[1]);
        case 18: return "" + x.count(a[0]);
        case 19: return "" + x.refusal(a[0], a[1], a[2], a[3], a[4]);
        case 20: return "" + x.price(a[0], a[1], a[2], a[3]);
        case 21: return "" + x.nextFree(a[0], a[1], a[2]);
        case 22: return "" + x.best();
        case 23: return "" + x.fullness(a[0]);
        case 24: return "" + x.meanRent();
        default: return "" + x.digest();
      }
    } catch (RuntimeException e) {
      return e.getClass().getSimpleName();
    }
  }

  /** One run: how crowded its days are, and how far its arguments stray, hang on the seed. */
  static final class Run {
    final Random random;
    final int days;
    final int stray;
    final int fewHours;
    String pending = "";

    Run(long seed) {
      random = new Random(seed);
      int[] spans = {2, 4, 8, 21, 84};
      days = spans[random.nextInt(spans.length)];
      int[] strays = {15, 40, 200, 100000};
      stray = strays[random.nextInt(strays.length)];
      fewHours = 2 + random.nextInt(8);
    }

    int in(int lowest, int highest) {
      if (random.nextInt(stray) > 0) return lowest + random.nextInt(highest - lowest + 1);
      int[] wild = {lowest - 1, highest + 1, Integer.MIN_VALUE, Integer.MAX_VALUE, -1, 0};
      return wild[random.nextInt(wild.length)];
    }

    int day() {
      int day = in(0, days - 1);
      return day >= 0 && day < days && random.nextInt(4) == 0 ? (day + 7 * random.nextInt(12)) % 84 : day;
    }

    int[] time() {
      int from = in(0, 23);
      int to = from + 1 + random.nextInt(fewHours);
      return new int[] {from, to > 24 && random.nextInt(10) > 0 ? 24 : random.nextInt(60) == 0 ? from - random.nextInt(2) : to};
    }

    int call() {
      if (!pending.isEmpty()) return random.nextInt(25) > 0 ? 6 : 8;
      int[] often = {0, 0, 0, 0, 1, 1, 1, 1, 1, 1, 1, 2, 3, 3, 5, 5, 6, 9, 10, 12, 19, 21};
      return random.nextInt(3) > 0 ? often[random.nextInt(often.length)] : random.nextInt(NAMES.length);
    }

    String newText() {
      StringBuilder s = new StringBuilder();
      for (int n = 1 + random.nextInt(4); n > 0; n--) {
        int from = random.nextInt(24);
        s.append(random.nextInt(3)).append(':').append(random.nextInt(days)).append(',').append(from).append('-')
            .append(Math.min(24, from + 1 + random.nextInt(fewHours))).append('*').append(1 + random.nextInt(9)).append('@')
            .append(random.nextInt(20)).append(n > 1 ? ";" : "");
      }
      if (random.nextInt(4) == 0) {
        String signs = "0123456789:,-*@;x";
        s.setCharAt(random.nextInt(s.length()), signs.charAt(random.nextInt(signs.length())));
      }
      return s.toString();
    }

    int code() {
      if (pending.isEmpty()) pending = newText();
      int code = pending.charAt(0);
      pending = pending.substring(1);
      return random.nextInt(200) == 0 ? in(33, 126) : code;
    }

    int[] arguments(int call) {
      int[] t = time();
      switch (call) {
        case 0: return new int[] {in(0, 2), in(0, Math.min(6, days - 1)), t[0], t[1], in(1, 9), in(0, 19)};
        case 1: return new int[] {in(0, 2), day(), t[0], t[1], in(1, 9), in(0, 19)};
        case 2: { int kind = random.nextInt(2); return new int[] {kind, in(0, kind == 0 ? 8 : 12)}; }
        case 3: return new int[] {in(0, 7), random.nextInt(3) > 0 ? day() : in(0, 83)};
        case 4: return new int[] {in(0, 2), in(100, 5000)};
        case 5: { int s = in(0, 4); int[] most = {4, 50, 100, 11, 11}; return new int[] {s, in(0, s >= 0 && s < 5 ? most[s] : 9)}; }
        case 6: return new int[] {code()};
        case 13: return new int[] {in(0, 8), in(0, 10)};
        case 14: return new int[] {in(0, 12), in(0, 6)};
        case 15: return new int[] {in(0, 2), day(), in(0, 23)};
        case 16: return new int[] {in(0, 2), day(), in(0, 3)};
        case 17: return new int[] {in(0, 19), in(0, 2)};
        case 18: return new int[] {in(0, 12)};
        case 19: return new int[] {in(0, 2), day(), t[0], t[1], in(1, 9)};
        case 20: return new int[] {in(0, 2), day(), t[0], t[1]};
        case 21: return new int[] {in(0, 2), day(), in(1, 24)};
        case 23: return new int[] {in(0, 2)};
        default: return new int[0];
      }
    }
  }

  static boolean agrees(long seed, int[] asked) {
    Run run = new Run(seed);
    HallDiary diary = new HallDiary();
    Model model = new Model();
    StringBuilder told = new StringBuilder();
    for (int i = 0; i < 512; i++) {
      boolean look = i % 2 == 1;
      int call = look ? 25 : run.call();
      int[] a = run.arguments(call);
      String got = onClass(diary, call, a);
      String due = onModel(model, call, a);
      asked[call]++;
      if (!look) told.append(NAMES[call]).append(java.util.Arrays.toString(a)).append(" -> ").append(due).append('\n');
      if (!got.equals(due)) {
        System.out.println("seed " + seed + ", call " + i + ": " + NAMES[call] + java.util.Arrays.toString(a) + " answered " + got
            + ", due is " + due + " after:\n" + told);
        return false;
      }
    }
    return true;
  }

  public static void main(String[] args) {
    int runs = args.length > 0 ? Integer.parseInt(args[0]) : 300;
    int[] asked = new int[NAMES.length];
    int wrong = 0;
    for (int seed = 0; seed < runs && wrong < 3; seed++) {
      if (!agrees(seed, asked)) wrong++;
    }
    for (int i = 0; i < NAMES.length; i++) {
      if (asked[i] == 0) {
        System.out.println("no run calls " + NAMES[i]);
        wrong++;
      }
    }
    System.out.println(wrong == 0 ? runs + " runs agree with the model" : "the class and the model differ");
    if (wrong != 0) System.exit(1);
  }
}
