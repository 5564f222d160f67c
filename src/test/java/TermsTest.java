/** The terms of the document, sentence by sentence: each that names a boundary case is asked here by itself. */
public final class TermsTest extends Answers {
  static final int[] NO_HALL = {-1, 3, MIN, MAX};
  static final int[] NO_DAY = {-1, 84, MIN, MAX};

  public static void main(String[] args) {
    calls();
    days();
    weekdaysAndWeeks();
    hours();
    halls();
    hoursOfALet();
    ranksAndTenants();
    rentStays();
    regularLetStands();
    mostLets();
    numbers();
    rentOfADay();
    surcharge();
    clash();
    clashOfLetsThatStand();
    oneCleaner();
    orderOfCleaning();
    beginOfCleaning();
    dayCanBeCleaned();
    withoutCleaning();
    beyondTheDay();
    firstReason();
    reasonOne();
    reasonTwo();
    reasonThree();
    singleDrivesOff();
    regularWithinTheTerm();
    regularOffOnADay();
    regularDrivesOff();
    regularOffOnAllDays();
    paid();
    givenBack();
    settings();
    buffer();
    textOfParts();
    textOfNumbers();
    textSignBySign();
    textWithoutHours();
    textOfAnyLength();
    undoableCalls();
    otherCalls();
    whatIsSaved();
    sixStates();
    throwingChangesNothing();
    looksChangeNothing();
    firstOfSeveralExceptions();
    tellAndEnd();
  }

  static void calls() {
    says("An object is used for at most 512 calls after it has been made");
    HallDiary x = new HallDiary();
    int paid = 0;
    for (int day : from(0, 254)) {
      int rent = day % 7 > 4 ? 3000 : 2000;
      paid += rent;
      due(0, () -> x.single(0, day % 84, 10, 12, 5, day % 20));
      due(rent, () -> x.cancel(false, 0));
    }
    int inAll = paid;
    due(inAll, () -> x.count(4));
    due(inAll, () -> x.count(5));
  }

  // ---- days, halls

  static void days() {
    says("The diary has 84 days, numbered from 0");
    for (int day : new int[] {0, 83}) {
      HallDiary x = new HallDiary();
      boolean isSunday = day == 83;
      due(0, () -> x.single(1, day, 10, 12, 5, 7));
      due(day, () -> x.singleOf(0, 1));
      due(7, () -> x.who(1, day, 10));
      due(1, () -> x.hallOf(1, day, 0));
      due(2, () -> x.refusal(1, day, 11, 13, 5));
      due(isSunday ? 4500 : 3000, () -> x.price(1, day, 11, 13));
      due(24 * day, () -> x.nextFree(1, day, 9));
      x.regular(0, isSunday ? 6 : 0, 1, 2, 1, 1);
      due(isSunday ? 1200 : 800, () -> x.off(0, day));
      due(1, () -> letsOf(x, "2:" + day + ",1-2*1@1"));
    }
    HallDiary x = new HallDiary();
    x.regular(0, 0, 1, 2, 1, 1);
    for (int day : NO_DAY) {
      due(WRONG_ARGUMENT, () -> x.single(0, day, 1, 2, 1, 1));
      due(WRONG_ARGUMENT, () -> x.off(0, day));
      due(WRONG_ARGUMENT, () -> x.who(0, day, 1));
      due(WRONG_ARGUMENT, () -> x.hallOf(0, day, 0));
      due(WRONG_ARGUMENT, () -> x.refusal(0, day, 1, 2, 1));
      due(WRONG_ARGUMENT, () -> x.price(0, day, 1, 2));
      due(WRONG_ARGUMENT, () -> x.nextFree(0, day, 1));
    }
  }

  static void weekdaysAndWeeks() {
    says("the weekday of a day is the day modulo 7 (0 Monday to 6 Sunday), its week the day divided by 7 (0 to 11)");
    for (int weekday : from(0, 6)) {
      HallDiary x = new HallDiary();
      due(12, () -> x.regular(0, weekday, 10, 11, 1, 9));
      due(weekday, () -> x.regularOf(0, 10));
      for (int day : from(0, 83)) {
        due(day % 7 == weekday ? 9 : -1, () -> x.who(0, day, 10));
        due(day % 7 == 5 || day % 7 == 6 ? 1500 : 1000, () -> x.price(0, day, 5, 6));
      }
    }
    for (int week : from(0, 11)) {
      HallDiary x = new HallDiary();
      x.set(3, week);
      x.set(4, week);
      due(1, () -> x.regular(2, 6, 10, 11, 1, 9));
      due(7 * week + 6, () -> x.regularOf(0, 10));
    }
    for (int weekday : new int[] {-1, 7, MIN, MAX}) {
      due(WRONG_ARGUMENT, () -> new HallDiary().regular(0, weekday, 10, 11, 1, 9));
    }
  }

  static void hours() {
    says("A day has the hours 0 to 23");
    HallDiary x = new HallDiary();
    x.single(0, 0, 0, 1, 1, 4);
    x.single(0, 0, 23, 24, 1, 5);
    due(4, () -> x.who(0, 0, 0));
    due(-1, () -> x.who(0, 0, 1));
    due(-1, () -> x.who(0, 0, 22));
    due(5, () -> x.who(0, 0, 23));
    due(-1, () -> x.who(0, 1, 0));
    for (int hour : new int[] {-1, 24, MIN, MAX}) due(WRONG_ARGUMENT, () -> x.who(0, 0, hour));
    due(22, () -> x.hallOf(0, 0, 1));
    due(22, () -> x.hallOf(0, 0, 2));
  }

  static void halls() {
    says("There are 3 halls, numbered from 0");
    HallDiary x = new HallDiary();
    int[] free = {3, 4, 48};
    for (int hall : NO_HALL) {
      due(OUT_OF_BOUNDS, () -> x.regular(hall, 0, 1, 2, 1, 1));
      due(OUT_OF_BOUNDS, () -> x.single(hall, 0, 1, 2, 1, 1));
      due(OUT_OF_BOUNDS, () -> x.rate(hall, 1000));
      due(OUT_OF_BOUNDS, () -> x.who(hall, 0, 1));
      due(OUT_OF_BOUNDS, () -> x.hallOf(hall, 0, 0));
      due(OUT_OF_BOUNDS, () -> x.refusal(hall, 0, 1, 2, 1));
      due(OUT_OF_BOUNDS, () -> x.price(hall, 0, 1, 2));
      due(OUT_OF_BOUNDS, () -> x.nextFree(hall, 0, 1));
      due(OUT_OF_BOUNDS, () -> (long) x.fullness(hall));
    }
    for (int hall : from(0, 2)) {
      due(12, () -> x.regular(hall, 0, 1, 2, 1, hall));
      due(0, () -> x.single(hall, 1, 1, 2, 1, hall));
      due(hall, () -> x.regularOf(hall, 0));
      due(hall, () -> x.singleOf(hall, 0));
      due(hall, () -> x.who(hall, 0, 1));
      due(1, () -> x.hallOf(hall, 0, 0));
      due(2, () -> x.refusal(hall, 0, 1, 2, 1));
      due(free[hall], () -> x.nextFree(hall, 0, 20));
      due(13, () -> Math.round(2016 * x.fullness(hall)));
    }
    says("each with a rate by the hour, 100 to 5000, at first 1000, 1500 and 2500");
    int[] first = {1000, 1500, 2500};
    for (int hall : from(0, 2)) {
      HallDiary y = new HallDiary();
      due(first[hall], () -> y.price(hall, 0, 0, 1));
      for (int rate : new int[] {99, 5001, 0, -1, MIN, MAX}) due(WRONG_ARGUMENT, () -> y.rate(hall, rate));
      due(first[hall], () -> y.rate(hall, 100));
      due(100, () -> y.price(hall, 0, 0, 1));
      due(100, () -> y.rate(hall, 5000));
      due(5000, () -> y.price(hall, 0, 0, 1));
      due(5000, () -> y.rate(hall, 5000));
      for (int other : from(0, 2)) if (other != hall) due(first[other], () -> y.price(other, 0, 0, 1));
    }
  }

  // ---- lets

  static void hoursOfALet() {
    says("an hour from which it goes, 0 to 23, and one to which it goes, greater than that, at most 24");
    int[] hours = {MIN, -1, 0, 1, 2, 22, 23, 24, 25, MAX};
    for (int from : hours) {
      for (int to : hours) {
        boolean isRight = from >= 0 && from <= 23 && to > from && to <= 24;
        HallDiary x = new HallDiary();
        due(isRight ? 0 : WRONG_ARGUMENT, () -> x.refusal(0, 0, from, to, 1));
        due(isRight ? 1000 * (to - from) : WRONG_ARGUMENT, () -> x.price(0, 0, from, to));
        due(isRight ? 12 : WRONG_ARGUMENT, () -> x.regular(0, 0, from, to, 1, 1));
        due(isRight ? 0 : WRONG_ARGUMENT, () -> x.single(1, 1, from, to, 1, 1));
        due(isRight ? 2 : 0, () -> x.keep());
        if (!isRight) continue;
        due(from, () -> x.regularOf(0, 2));
        due(to, () -> x.regularOf(0, 3));
        due(from, () -> x.singleOf(0, 2));
        due(to, () -> x.singleOf(0, 3));
        for (int hour : from(0, 23)) due(hour >= from && hour < to ? 1 : -1, () -> x.who(0, 0, hour));
      }
    }
  }

  static void ranksAndTenants() {
    says("a rank, 1 to 9");
    for (int rank : new int[] {MIN, -1, 0, 1, 2, 8, 9, 10, MAX}) {
      boolean isRight = rank >= 1 && rank <= 9;
      HallDiary x = new HallDiary();
      due(isRight ? 0 : WRONG_ARGUMENT, () -> x.refusal(0, 0, 1, 2, rank));
      due(isRight ? 12 : WRONG_ARGUMENT, () -> x.regular(0, 0, 1, 2, rank, 1));
      due(isRight ? 0 : WRONG_ARGUMENT, () -> x.single(1, 1, 1, 2, rank, 1));
      due(isRight ? rank : OUT_OF_BOUNDS, () -> x.regularOf(0, 4));
      due(isRight ? rank : OUT_OF_BOUNDS, () -> x.singleOf(0, 4));
    }
    says("a tenant, 0 to 19");
    for (int tenant : new int[] {MIN, -1, 0, 1, 18, 19, 20, MAX}) {
      boolean isRight = tenant >= 0 && tenant <= 19;
      HallDiary x = new HallDiary();
      due(isRight ? 12 : WRONG_ARGUMENT, () -> x.regular(0, 0, 1, 2, 1, tenant));
      due(isRight ? 0 : WRONG_ARGUMENT, () -> x.single(1, 1, 1, 2, 1, tenant));
      due(isRight ? tenant : OUT_OF_BOUNDS, () -> x.regularOf(0, 5));
      due(isRight ? tenant : OUT_OF_BOUNDS, () -> x.singleOf(0, 5));
      due(isRight ? 2 : OUT_OF_BOUNDS, () -> x.tenant(tenant, 0));
    }
  }

  static void rentStays() {
    says("a rent for a day, which stays as it was reckoned when the let was made");
    HallDiary x = new HallDiary();
    x.regular(0, 5, 10, 12, 3, 1);
    x.single(1, 6, 10, 12, 3, 2);
    x.single(1, 13, 10, 12, 3, 2);
    x.rate(0, 5000);
    x.rate(1, 100);
    x.set(1, 0);
    x.set(2, 100);
    due(2400, () -> x.regularOf(0, 6));
    due(4500, () -> x.singleOf(0, 6));
    due(2400, () -> x.hallOf(0, 5, 3));
    due(4500, () -> x.hallOf(1, 6, 3));
    due(28800, () -> x.tenant(1, 2));
    due(9000, () -> x.tenant(2, 2));
    due(37800, () -> x.count(3));
    due(2400, () -> x.off(0, 5));
    due(4500, () -> x.cancel(false, 0));
    due(1, () -> x.single(0, 12, 10, 12, 4, 5));
    due(2400 + 4500 + 2400, () -> x.count(5));
    due(24000, () -> x.cancel(true, 0));
    due(20000, () -> x.singleOf(1, 6));
  }

  static void regularLetStands() {
    says("A regular let has a weekday, and the weeks of the term, as they were when it was made");
    HallDiary x = new HallDiary();
    x.set(3, 2);
    x.set(4, 5);
    due(4, () -> x.regular(1, 4, 10, 12, 3, 8));
    x.set(4, 11);
    x.set(3, 0);
    due(12, () -> x.regular(1, 4, 14, 15, 3, 9));
    x.set(3, 9);
    int[] first = {2, 5, 4, 18};
    int[] second = {0, 11, 12, 4};
    for (int i : from(0, 3)) {
      due(first[i], () -> x.regularOf(0, 7 + i));
      due(second[i], () -> x.regularOf(1, 7 + i));
    }
    for (int week : from(0, 11)) {
      due(week >= 2 && week <= 5 ? 8 : -1, () -> x.who(1, 7 * week + 4, 10));
      due(9, () -> x.who(1, 7 * week + 4, 14));
    }
    due(WRONG_STATE, () -> x.off(0, 11));
    due(WRONG_STATE, () -> x.off(0, 46));
    says("it stands on each day of this weekday in these weeks on which it is not off");
    HallDiary y = new HallDiary();
    y.regular(1, 4, 10, 12, 3, 8);
    for (int day : new int[] {4, 39, 81}) y.off(0, day);
    for (int day : from(0, 83)) {
      boolean stands = day % 7 == 4 && day != 4 && day != 39 && day != 81;
      due(stands ? 8 : -1, () -> y.who(1, day, 11));
    }
    due(9, () -> y.regularOf(0, 9));
    due(11, () -> y.regularOf(0, 10));
  }

  static HallDiary fullOfBoth() {
    HallDiary x = fullOfSingles();
    for (int i = 0; i < 8; i++) x.regular(1, i % 7, i < 7 ? 1 : 4, i < 7 ? 2 : 5, 5, i);
    return x;
  }

  static void mostLets() {
    says("At most 8 regular lets, and 12 single ones, are in the diary");
    HallDiary x = new HallDiary();
    for (int i : from(0, 7)) due(12, () -> x.regular(1, i % 7, i < 7 ? 1 : 4, i < 7 ? 2 : 5, 5, i));
    for (int i : from(0, 11)) due(0, () -> x.single(0, i, 10, 12, 5, i));
    due(8, () -> x.count(0));
    due(12, () -> x.count(1));
    due(WRONG_STATE, () -> x.regular(2, 0, 1, 2, 9, 0));
    due(WRONG_STATE, () -> x.single(2, 0, 1, 2, 9, 0));
    due(0, () -> letsOf(x, "2:0,1-2*9@0"));
    x.cancel(true, 3);
    due(WRONG_STATE, () -> x.single(2, 0, 1, 2, 9, 0));
    due(12, () -> x.regular(2, 0, 1, 2, 9, 0));
    due(WRONG_STATE, () -> x.regular(2, 0, 4, 5, 9, 0));
    x.cancel(false, 11);
    due(WRONG_STATE, () -> x.regular(2, 0, 4, 5, 9, 0));
    due(0, () -> x.single(2, 1, 1, 2, 9, 0));
    due(WRONG_STATE, () -> x.single(2, 2, 1, 2, 9, 0));
    // A regular let that is off on all its days is in the diary all the same.
    HallDiary y = new HallDiary();
    y.set(4, 0);
    for (int i = 0; i < 7; i++) y.regular(1, i, 1, 2, 5, i);
    y.off(0, 0);
    due(1, () -> y.regular(1, 0, 1, 2, 5, 0));
    due(WRONG_STATE, () -> y.regular(1, 0, 4, 5, 5, 0));
    due(8, () -> y.count(0));
  }

  static void tenantsAre(HallDiary x, boolean isRegular, int... tenants) {
    due(tenants.length, () -> x.count(isRegular ? 0 : 1));
    for (int i : from(0, tenants.length - 1)) due(tenants[i], () -> isRegular ? x.regularOf(i, 5) : x.singleOf(i, 5));
    due(OUT_OF_BOUNDS, () -> isRegular ? x.regularOf(tenants.length, 5) : x.singleOf(tenants.length, 5));
  }

  static void numbers() {
    says("each kind numbered from 0 in the order in which they were made");
    HallDiary x = new HallDiary();
    x.single(2, 9, 20, 21, 9, 11);
    x.regular(1, 4, 10, 12, 1, 4);
    x.single(0, 3, 5, 6, 1, 12);
    x.single(1, 6, 1, 2, 5, 10);
    x.regular(0, 2, 5, 6, 9, 3);
    tenantsAre(x, false, 11, 12, 10);
    tenantsAre(x, true, 4, 3);
    says("if one goes, those of its kind behind it have numbers that are less by 1");
    HallDiary y = new HallDiary();
    for (int i = 0; i < 5; i++) y.single(0, i, 1, 2, 5, 10 + i);
    for (int i = 0; i < 3; i++) y.regular(1, i, 1, 2, 5, i);
    y.cancel(false, 1);
    tenantsAre(y, false, 10, 12, 13, 14);
    y.cancel(false, 0);
    tenantsAre(y, false, 12, 13, 14);
    y.cancel(false, 2);
    tenantsAre(y, false, 12, 13);
    tenantsAre(y, true, 0, 1, 2);
    y.cancel(true, 1);
    tenantsAre(y, true, 0, 2);
    tenantsAre(y, false, 12, 13);
    y.single(0, 9, 1, 2, 5, 19);
    tenantsAre(y, false, 12, 13, 19);
    // Two that give way in one call, the first and the third; a regular one that gives way keeps its number.
    HallDiary z = new HallDiary();
    z.regular(0, 0, 8, 9, 1, 1);
    z.regular(0, 1, 8, 9, 1, 2);
    z.off(0, 0);
    z.single(0, 0, 8, 9, 1, 10);
    z.single(1, 0, 8, 9, 1, 11);
    z.single(0, 0, 11, 12, 1, 12);
    z.single(0, 0, 20, 21, 1, 13);
    due(2, () -> z.single(0, 0, 9, 11, 2, 14));
    tenantsAre(z, false, 11, 13, 14);
    due(1, () -> z.single(0, 7, 9, 11, 2, 15));
    tenantsAre(z, true, 1, 2);
  }

  static void rentOfADay() {
    says("its hours times the rate of the hall, times (100 less setting 1) for a regular one, times 100 for a single one, divided by 100");
    for (int discount : from(0, 50)) {
      HallDiary x = new HallDiary();
      x.set(1, discount);
      x.rate(2, 4999);
      x.regular(2, 4, 3, 10, 1, 1);
      x.single(2, 0, 3, 10, 1, 1);
      due((7 * 499900L - 7 * 4999 * discount) / 100, () -> x.regularOf(0, 6));
      due(34993, () -> x.singleOf(0, 6));
      due(34993, () -> x.price(2, 4, 3, 10));
    }
    says("divisions are rounded down");
    HallDiary x = new HallDiary();
    x.rate(0, 101);
    x.set(1, 1);
    x.regular(0, 0, 10, 13, 1, 1);
    due(299, () -> x.regularOf(0, 6));
    x.set(1, 50);
    x.regular(0, 1, 10, 11, 1, 1);
    due(50, () -> x.regularOf(1, 6));
    // 199 hundredths times 51 is 101 and a half nearly; half more is 151 and a half.
    x.rate(0, 199);
    x.set(1, 49);
    x.regular(0, 5, 10, 11, 1, 1);
    due(151, () -> x.regularOf(2, 6));
    x.set(2, 1);
    due(200, () -> x.price(0, 5, 10, 11));
  }

  static void surcharge() {
    says("and then times (100 and setting 2), divided by 100, on the weekdays 5 and 6");
    HallDiary x = new HallDiary();
    x.rate(0, 101);
    x.set(2, 33);
    int[] prices = {101, 101, 101, 101, 101, 134, 134};
    for (int day : from(0, 83)) due(prices[day % 7], () -> x.price(0, day, 3, 4));
    x.set(1, 0);
    for (int weekday : from(0, 6)) {
      x.regular(0, weekday, 3, 4, 1, 1);
      due(prices[weekday], () -> x.regularOf(weekday, 6));
    }
    x.set(2, 0);
    due(101, () -> x.price(0, 5, 3, 4));
    x.set(2, 100);
    due(202, () -> x.price(0, 6, 3, 4));
    // 333 times 93 hundredths is 309, and half more 463; not 464, as it would be in one step.
    HallDiary y = new HallDiary();
    y.rate(0, 333);
    y.set(1, 7);
    y.regular(0, 6, 3, 4, 1, 1);
    due(463, () -> y.regularOf(0, 6));
  }

  // ---- clashes, cleaning

  static void clash() {
    says("clash, if each one's hour from is less than the other one's hour to and setting 0, together");
    for (int gap : from(0, 4)) {
      HallDiary x = new HallDiary();
      x.set(0, gap);
      x.single(1, 3, 10, 12, 9, 1);
      for (int from : from(0, 23)) {
        for (int to : from(from + 1, 24)) {
          due(from < 12 + gap && 10 < to + gap ? 2 : 0, () -> x.refusal(1, 3, from, to, 9));
        }
      }
      HallDiary y = new HallDiary();
      y.set(0, gap);
      y.regular(0, 2, 10, 12, 5, 1);
      if (gap > 0) due(WRONG_STATE, () -> y.regular(0, 2, 11 + gap, 12 + gap, 5, 2));
      if (gap > 0) due(WRONG_STATE, () -> y.regular(0, 2, 4, 11 - gap, 5, 2));
      due(12, () -> y.regular(0, 2, 12 + gap, 13 + gap, 5, 2));
      due(12, () -> y.regular(0, 2, 4, 10 - gap, 5, 2));
    }
  }

  static void clashOfLetsThatStand() {
    says("Two lets that stand in one hall on one day");
    HallDiary x = new HallDiary();
    x.set(0, 4);
    x.single(1, 3, 0, 24, 9, 1);
    due(2, () -> x.refusal(1, 3, 10, 11, 9));
    due(0, () -> x.refusal(0, 3, 0, 24, 1));
    due(0, () -> x.refusal(2, 3, 0, 24, 1));
    due(0, () -> x.refusal(1, 2, 0, 24, 1));
    due(0, () -> x.refusal(1, 4, 0, 24, 1));
    due(0, () -> x.refusal(1, 10, 0, 24, 1));
    HallDiary y = new HallDiary();
    y.regular(0, 2, 10, 12, 5, 1);
    y.off(0, 9);
    due(2, () -> y.refusal(0, 2, 10, 12, 5));
    due(0, () -> y.refusal(0, 9, 10, 12, 1));
    due(2, () -> y.refusal(0, 16, 10, 12, 5));
    due(0, () -> y.single(0, 9, 10, 12, 1, 2));
    y.cancel(true, 0);
    // The let that was cancelled gives way to nobody any more.
    due(0, () -> y.single(0, 2, 10, 12, 9, 2));
    due(0, () -> y.count(6));
    y.single(0, 20, 10, 12, 1, 3);
    y.cancel(false, 2);
    due(0, () -> y.single(0, 20, 10, 12, 9, 2));
  }

  static void oneCleaner() {
    says("Behind each let its hall is cleaned, for setting 0 hours, by one cleaner for all halls");
    for (int gap : from(1, 4)) {
      HallDiary x = new HallDiary();
      x.set(0, gap);
      x.single(0, 5, 8, 10, 9, 1);
      x.single(1, 5, 8, 10, 9, 2);
      int first = 10 + gap;
      int second = first + gap;
      due(2, () -> x.refusal(0, 5, first - 1, first, 9));
      due(0, () -> x.refusal(0, 5, first, first + 1, 9));
      due(3, () -> x.refusal(1, 5, second - 1, second, 9));
      due(0, () -> x.refusal(1, 5, second, second + 1, 9));
      x.single(2, 5, 8, 10, 9, 3);
      due(second + gap > 24 ? 0 : 3, () -> x.refusal(2, 5, second + gap - 1, second + gap, 9));
      due(0, () -> x.refusal(2, 5, second + gap, second + gap + 1, 9));
    }
  }

  static void orderOfCleaning() {
    says("on a day the lets are cleaned in the order of their hours to, of several by the halls");
    // Hall 1 from 10 to 11, then hall 0 from 11 to 12, though hall 0 went first and was let first.
    HallDiary x = new HallDiary();
    x.single(0, 5, 6, 11, 9, 1);
    x.single(1, 5, 8, 10, 9, 2);
    due(0, () -> x.refusal(1, 5, 11, 12, 9));
    due(0, () -> x.refusal(0, 5, 12, 13, 9));
    // Both till 10: hall 0 first, though hall 1 was let first and the let of hall 0 is longer.
    HallDiary y = new HallDiary();
    y.single(1, 5, 8, 10, 9, 1);
    y.single(0, 5, 7, 10, 1, 2);
    due(0, () -> y.refusal(0, 5, 11, 12, 9));
    due(3, () -> y.refusal(1, 5, 11, 12, 9));
    due(0, () -> y.refusal(1, 5, 12, 13, 9));
    // By the halls, not by the kinds.
    HallDiary z = new HallDiary();
    z.regular(2, 5, 8, 10, 9, 1);
    z.single(1, 5, 8, 10, 9, 2);
    due(0, () -> z.refusal(1, 5, 11, 12, 9));
    due(3, () -> z.refusal(2, 5, 11, 12, 9));
    due(0, () -> z.refusal(2, 5, 12, 13, 9));
    // A new let takes its turn by its hall too.
    HallDiary w = new HallDiary();
    w.single(1, 5, 8, 10, 9, 1);
    w.single(1, 5, 11, 12, 9, 1);
    due(3, () -> w.refusal(0, 5, 8, 10, 9));
    due(0, () -> w.refusal(2, 5, 8, 10, 9));
    due(3, () -> w.refusal(0, 5, 1, 10, 9));
    due(0, () -> w.refusal(0, 5, 8, 9, 9));
    due(0, () -> w.refusal(0, 5, 8, 11, 9));
  }

  static void beginOfCleaning() {
    says("a cleaning begins at the hour to of the let, or when the one before it is over, if that is later");
    int[] ends = {5, 7, 8, 9, 10};
    int[] clean = {12, 12, 12, 13, 14};
    for (int i : from(0, 4)) {
      HallDiary x = new HallDiary();
      x.set(0, 2);
      x.single(0, 5, 4, ends[i], 9, 1);
      x.single(1, 5, 8, 10, 9, 2);
      due(0, () -> x.refusal(1, 5, clean[i], clean[i] + 1, 9));
      due(clean[i] == 12 ? 2 : 3, () -> x.refusal(1, 5, clean[i] - 1, clean[i], 9));
    }
    // From 9 to 11, from 11 to 13, from 13 to 15.
    HallDiary y = new HallDiary();
    y.set(0, 2);
    y.single(0, 5, 4, 9, 9, 1);
    y.single(1, 5, 8, 10, 9, 2);
    y.single(2, 5, 8, 11, 9, 3);
    due(3, () -> y.refusal(2, 5, 14, 15, 9));
    due(0, () -> y.refusal(2, 5, 15, 16, 9));
    // Hour 0 is not too early, and a cleaner who waits begins at once.
    HallDiary z = new HallDiary();
    z.single(0, 5, 0, 1, 9, 1);
    due(0, () -> z.refusal(0, 5, 2, 3, 9));
    due(2, () -> z.refusal(0, 5, 1, 3, 9));
    due(0, () -> z.refusal(1, 5, 0, 1, 9));
  }

  static void dayCanBeCleaned() {
    says("each cleaning is over at the hour from of the next let in the same hall on this day, if there is one, or earlier");
    // A let between two others: in time, unless the cleaner does hall 0 before.
    HallDiary x = new HallDiary();
    x.single(1, 5, 6, 8, 9, 1);
    x.single(1, 5, 12, 13, 9, 2);
    due(0, () -> x.refusal(1, 5, 9, 11, 9));
    due(0, () -> x.refusal(1, 5, 9, 10, 9));
    x.single(0, 5, 8, 11, 9, 3);
    due(3, () -> x.refusal(1, 5, 9, 11, 9));
    due(0, () -> x.refusal(1, 5, 9, 10, 9));
    // Each cleaning: also that of a hall for which nothing is wanted.
    HallDiary y = new HallDiary();
    y.single(2, 5, 8, 10, 9, 1);
    y.single(2, 5, 12, 13, 9, 1);
    due(0, () -> y.single(0, 5, 8, 10, 9, 2));
    due(3, () -> y.refusal(1, 5, 8, 10, 9));
    due(0, () -> y.refusal(1, 5, 8, 11, 9));
    due(0, () -> y.refusal(1, 12, 8, 10, 9));
    // Where no let is next, all three halls may end together.
    HallDiary z = new HallDiary();
    z.set(0, 4);
    for (int hall : from(0, 2)) due(0, () -> z.single(hall, 5, 20, 24, 9, 1));
  }

  static void withoutCleaning() {
    says("With setting 0 as 0 each day can.");
    HallDiary x = new HallDiary();
    x.set(0, 0);
    for (int i : from(0, 7)) due(12, () -> x.regular(i % 3, 5, i / 3, i / 3 + 1, 1, i));
    for (int i : from(8, 19)) {
      due(0, () -> x.refusal(i % 3, 5, i / 3, i / 3 + 1, 1));
      due(0, () -> x.single(i % 3, 5, i / 3, i / 3 + 1, 1, i));
    }
    for (int i : from(0, 19)) due(i, () -> x.who(i % 3, 5, i / 3));
    due(0, () -> x.set(0, 0));
    due(WRONG_STATE, () -> x.set(0, 1));
  }

  static void beyondTheDay() {
    says("What goes on beyond the hour 24 does not matter on the next day.");
    HallDiary x = new HallDiary();
    x.set(0, 4);
    for (int hall = 0; hall < 3; hall++) x.single(hall, 5, 20, 24, 9, 1);
    for (int hall : from(0, 2)) {
      due(0, () -> x.refusal(hall, 6, 0, 1, 1));
      due(24 * 6, () -> x.nextFree(hall, 6, 24));
      due(0, () -> x.single(hall, 6, 0, 24, 1, 2));
    }
    due(4, () -> x.set(0, 4));
    HallDiary y = new HallDiary();
    for (int hall = 0; hall < 3; hall++) y.regular(hall, hall + 1, 23, 24, 9, 1);
    for (int hall = 0; hall < 3; hall++) y.regular(hall, hall + 2, 0, 1, 9, 1);
    due(1, () -> y.set(0, 4));
  }

  // ---- how a single let is made or refused

  static void firstReason() {
    says("It is refused for the first of these reasons that applies");
    HallDiary x = new HallDiary();
    x.single(0, 5, 8, 10, 9, 1);
    x.single(1, 5, 5, 8, 5, 2);
    x.single(1, 5, 11, 14, 9, 3);
    // Rank 5 is met by the let that ends at 8; with rank 6 the cleaner is left, who comes to hall 1 too late.
    due(2, () -> x.refusal(1, 5, 8, 10, 5));
    due(3, () -> x.refusal(1, 5, 8, 10, 6));
    for (int day = 10; day < 19; day++) x.single(2, day, 1, 2, 1, 1);
    due(1, () -> x.refusal(1, 5, 8, 10, 5));
    due(1, () -> x.refusal(1, 5, 8, 10, 6));
    due(1, () -> x.refusal(2, 0, 1, 2, 9));
  }

  static void reasonOne() {
    says("1: there are 12");
    HallDiary x = new HallDiary();
    for (int i = 0; i < 8; i++) x.regular(1, i % 7, i < 7 ? 1 : 4, i < 7 ? 2 : 5, 5, i);
    for (int i : from(0, 11)) {
      due(0, () -> x.refusal(2, 80, 1, 2, 1));
      x.single(0, i, 10, 12, 5, i);
    }
    due(1, () -> x.refusal(2, 80, 1, 2, 1));
    due(WRONG_STATE, () -> x.single(2, 80, 1, 2, 1, 1));
    // Not even in place of one that would give way.
    due(1, () -> x.refusal(0, 0, 10, 12, 9));
    due(WRONG_STATE, () -> x.single(0, 0, 10, 12, 9, 1));
    x.cancel(false, 0);
    due(0, () -> x.refusal(2, 80, 1, 2, 1));
  }

  static void reasonTwo() {
    says("2: it would clash with a let that stands, whose rank is not below its own");
    for (int stands : from(1, 9)) {
      HallDiary x = new HallDiary();
      x.single(0, 5, 8, 10, stands, 1);
      x.regular(1, 4, 8, 10, stands, 1);
      for (int rank : from(1, 9)) {
        due(rank > stands ? 0 : 2, () -> x.refusal(0, 5, 10, 11, rank));
        due(rank > stands ? 0 : 2, () -> x.refusal(1, 4, 7, 8, rank));
      }
      due(WRONG_STATE, () -> x.single(0, 5, 10, 11, stands, 1));
      if (stands < 9) due(1, () -> x.single(0, 5, 10, 11, stands + 1, 1));
    }
    // One that is not below is enough.
    HallDiary y = new HallDiary();
    y.single(0, 5, 10, 11, 7, 1);
    y.single(0, 5, 8, 9, 3, 1);
    y.single(0, 5, 12, 13, 3, 1);
    for (int rank : from(1, 9)) due(rank > 7 ? 0 : 2, () -> y.refusal(0, 5, 8, 13, rank));
  }

  static void reasonThree() {
    says("3: the day could not be cleaned, with it, and without all lets with which it would clash");
    HallDiary x = new HallDiary();
    x.single(0, 5, 8, 10, 1, 1);
    x.single(1, 5, 8, 10, 1, 2);
    x.single(1, 5, 12, 13, 9, 3);
    // With the let from 8 to 10 behind it, hall 1 would be cleaned from 12 to 13.
    due(0, () -> x.refusal(0, 5, 9, 10, 2));
    due(1, () -> x.single(0, 5, 9, 10, 2, 4));
    // What gives way is no bound any more either: the one from 11.
    HallDiary y = new HallDiary();
    y.single(0, 5, 8, 10, 9, 1);
    y.single(1, 5, 11, 14, 1, 2);
    due(3, () -> y.refusal(1, 5, 8, 10, 9));
    due(2, () -> y.refusal(1, 5, 8, 11, 1));
    due(0, () -> y.refusal(1, 5, 8, 11, 2));
  }

  static void singleDrivesOff() {
    says("Otherwise all lets with which it would clash give way: a single one goes, a regular one is off on this day.");
    HallDiary x = new HallDiary();
    x.regular(0, 5, 8, 10, 1, 1);
    x.regular(0, 5, 12, 14, 2, 2);
    x.single(0, 5, 16, 17, 3, 3);
    x.single(0, 5, 20, 21, 1, 4);
    x.single(1, 5, 10, 11, 1, 5);
    x.single(0, 12, 15, 16, 1, 6);
    due(3, () -> x.single(0, 5, 9, 16, 4, 7));
    tenantsAre(x, true, 1, 2);
    tenantsAre(x, false, 4, 5, 6, 7);
    for (int number : from(0, 1)) {
      due(11, () -> x.regularOf(number, 9));
      due(12, () -> x.regularOf(number, 10));
    }
    due(1, () -> x.who(0, 12, 8));
    due(-1, () -> x.who(0, 5, 8));
    due(7, () -> x.who(0, 5, 12));
    due(-1, () -> x.who(0, 5, 16));
    due(3, () -> x.count(6));
    // Where nothing is met nothing gives way, and a day that is off stays off when the other let goes.
    due(0, () -> x.single(2, 5, 9, 16, 4, 7));
    x.cancel(false, 3);
    due(-1, () -> x.who(0, 5, 12));
  }

  // ---- how a regular let is made or refused

  static void regularWithinTheTerm() {
    says("Otherwise, for each day of its weekday in the weeks of the term");
    HallDiary x = new HallDiary();
    for (int week = 2; week < 7; week++) x.single(0, 7 * week, 10, 12, 1, week);
    x.set(3, 3);
    x.set(4, 5);
    due(3, () -> x.regular(0, 0, 10, 12, 5, 9));
    due(3, () -> x.count(6));
    tenantsAre(x, false, 2, 6);
    for (int week : from(0, 11)) due(week >= 3 && week <= 5 ? 9 : week == 2 || week == 6 ? week : -1, () -> x.who(0, 7 * week, 10));
    says("It is refused for the reason 1, if there are 8.");
    HallDiary y = fullOfBoth();
    for (int rank : from(1, 9)) due(WRONG_STATE, () -> y.regular(2, 0, 10, 12, rank, 9));
    for (int i = 0; i < 12; i++) y.cancel(false, 0);
    due(WRONG_STATE, () -> y.regular(2, 0, 10, 12, 9, 9));
    y.cancel(true, 7);
    due(12, () -> y.regular(2, 0, 10, 12, 1, 9));
  }

  static void regularOffOnADay() {
    says("if a single let made so on this day would be refused for the reason 2 or 3, the new let is off on this day");
    HallDiary x = new HallDiary();
    // Day 0: one let is below, the other is not, so neither gives way.
    x.single(0, 0, 8, 9, 1, 1);
    x.single(0, 0, 10, 11, 5, 2);
    // Day 7: the cleaner comes to hall 0 from 12 to 13.
    x.single(0, 7, 12, 13, 9, 3);
    x.single(1, 7, 8, 10, 9, 3);
    x.single(2, 7, 8, 10, 9, 3);
    // Day 14: from 11 to 12.
    x.single(0, 14, 12, 13, 9, 4);
    x.single(1, 14, 8, 10, 9, 4);
    int[] reasons = {2, 3, 0};
    for (int week : from(0, 2)) due(reasons[week], () -> x.refusal(0, 7 * week, 8, 11, 5));
    due(10, () -> x.regular(0, 0, 8, 11, 5, 9));
    due(14, () -> x.regularOf(0, 10));
    due(7, () -> x.count(1));
    due(0, () -> x.count(6));
    due(0, () -> x.count(5));
    for (int week : from(0, 11)) due(week < 1 ? 1 : week < 2 ? -1 : 9, () -> x.who(0, 7 * week, 8));
    // The reason 1 of a single let is none of these.
    HallDiary y = fullOfSingles();
    due(1, () -> y.refusal(0, 0, 10, 12, 1));
    due(10, () -> y.regular(0, 0, 10, 12, 1, 3));
    due(12, () -> y.count(1));
  }

  static void regularDrivesOff() {
    says("otherwise all lets with which it would clash give way on this day");
    HallDiary x = new HallDiary();
    x.regular(0, 0, 8, 10, 4, 1);
    x.single(0, 0, 11, 13, 4, 2);
    x.single(0, 0, 15, 16, 4, 3);
    x.off(0, 7);
    due(12, () -> x.regular(0, 0, 9, 12, 5, 9));
    due(12, () -> x.count(6));
    due(0, () -> x.regularOf(0, 9));
    due(-1, () -> x.regularOf(0, 10));
    tenantsAre(x, true, 1, 9);
    tenantsAre(x, false, 3);
    due(12 * 1600 + 2000, () -> x.count(5));
    // Only on the days on which the new one stands.
    HallDiary y = new HallDiary();
    y.regular(0, 0, 8, 10, 4, 1);
    y.single(0, 14, 11, 13, 9, 2);
    due(11, () -> y.regular(0, 0, 9, 12, 5, 9));
    due(11, () -> y.count(6));
    due(1, () -> y.regularOf(0, 9));
    due(14, () -> y.regularOf(0, 10));
  }

  static HallDiary closedToRankFive() {
    HallDiary x = new HallDiary();
    x.regular(0, 0, 8, 10, 5, 1);
    x.single(0, 7, 11, 12, 1, 2);
    x.regular(0, 0, 20, 21, 1, 3);
    return x;
  }

  static void regularOffOnAllDays() {
    says("It is refused for the reason 2, if it would be off on all these days (nothing is changed then).");
    changesNothing(TermsTest::closedToRankFive, WRONG_STATE, x -> x.regular(0, 0, 9, 20, 5, 9));
    HallDiary x = closedToRankFive();
    x.off(0, 35);
    due(1, () -> x.regular(0, 0, 9, 20, 5, 9));
    due(35, () -> x.regularOf(2, 10));
    due(1, () -> x.count(6));
    // All of these days are one, and the reason is 3.
    Recipe oneWeek = () -> {
      HallDiary y = new HallDiary();
      y.set(3, 11);
      y.single(0, 83, 8, 10, 9, 1);
      y.single(1, 83, 11, 14, 9, 1);
      return y;
    };
    changesNothing(oneWeek, WRONG_STATE, y -> y.regular(1, 6, 8, 10, 9, 9));
    due(1, () -> oneWeek.made().regular(1, 6, 8, 9, 9, 9));
  }

  // ---- accounts, settings

  static void paid() {
    says("Rents are paid when a let is made: for each day on which it stands.");
    HallDiary x = new HallDiary();
    due(0, () -> x.count(4));
    x.single(0, 6, 10, 12, 9, 1);
    due(3000, () -> x.count(4));
    x.regular(0, 6, 10, 12, 9, 2);
    due(3000 + 11 * 2400, () -> x.count(4));
    letsOf(x, "0:0,1-2*1@1;0:0,1-2*1@1;1:0,3-4*1@1");
    due(3000 + 11 * 2400 + 1000 + 1500, () -> x.count(4));
    due(WRONG_STATE, () -> x.single(0, 0, 1, 2, 1, 1));
    x.off(0, 13);
    x.cancel(false, 0);
    due(3000 + 11 * 2400 + 1000 + 1500, () -> x.count(4));
    due(10 * 2400 + 1000 + 1500, () -> x.count(3));
  }

  static void givenBack() {
    says("When a let gives way, is off, or is cancelled, what was paid for these days is given back.");
    HallDiary x = new HallDiary();
    x.regular(0, 6, 10, 12, 3, 1);
    x.single(0, 0, 10, 12, 3, 2);
    x.single(0, 1, 10, 12, 3, 2);
    due(0, () -> x.count(5));
    due(2400, () -> x.off(0, 6));
    due(2400, () -> x.count(5));
    x.single(0, 13, 11, 13, 4, 3);
    due(4800, () -> x.count(5));
    x.single(0, 0, 11, 13, 4, 3);
    due(6800, () -> x.count(5));
    due(2000, () -> x.cancel(false, 0));
    due(8800, () -> x.count(5));
    due(24000, () -> x.cancel(true, 0));
    due(32800, () -> x.count(5));
    due(2, () -> x.count(6));
    due(x.count(4) - x.count(5), () -> x.count(3));
    // Nothing is paid for days that are off already.
    HallDiary y = new HallDiary();
    y.set(4, 0);
    y.regular(0, 0, 10, 12, 3, 1);
    y.off(0, 0);
    due(0, () -> y.cancel(true, 0));
    due(1600, () -> y.count(5));
  }

  static void settings() {
    String[] sentences = {"0: hours of cleaning, 0 to 4, at first 1", "1: the discount, 0 to 50, at first 20",
        "2: the surcharge, 0 to 100, at first 50", "3: the first week of the term, 0 to 11, at first 0",
        "4: the last one, 0 to 11, at first 11"};
    int[] first = {1, 20, 50, 0, 11};
    int[] most = {4, 50, 100, 11, 11};
    for (int setting : from(0, 4)) {
      says(sentences[setting]);
      HallDiary x = new HallDiary();
      due(first[setting], () -> x.count(7 + setting));
      for (int bad : new int[] {MIN, -1, most[setting] + 1, MAX}) due(WRONG_ARGUMENT, () -> x.set(setting, bad));
      due(first[setting], () -> x.set(setting, most[setting]));
      due(most[setting], () -> x.count(7 + setting));
      due(most[setting], () -> x.set(setting, 0));
      due(0, () -> x.count(7 + setting));
      for (int other : from(0, 4)) if (other != setting) due(first[other], () -> x.count(7 + other));
    }
    says("(not less than the first one)");
    for (int last : from(0, 11)) {
      HallDiary x = new HallDiary();
      due(11, () -> x.set(4, last));
      for (int week : from(0, 11)) due(week > last ? WRONG_STATE : Math.max(0, week - 1), () -> x.set(3, week));
      due(last, () -> x.count(10));
      for (int week : from(0, 11)) due(week < last ? WRONG_STATE : week == last ? last : week - 1, () -> x.set(4, week));
    }
  }

  // ---- the input text

  static void buffer() {
    says("The buffer has at most 60 characters.");
    HallDiary x = new HallDiary();
    for (int i : from(1, 60)) due(i, () -> x.append(i % 2 == 0 ? 33 : 126));
    due(WRONG_STATE, () -> x.append(33));
    due(60, () -> x.clearBuffer());
    due(1, () -> x.append(33));
    HallDiary y = new HallDiary();
    due(4, () -> letsOf(y, "0:10,10-12*1@10;0:11,9-12*1@10;0:12,9-12*1@10;0:13,9-12*1@19"));
    due(0, () -> y.clearBuffer());
  }

  static void textOfParts() {
    says("Single lets as a text are one or more parts with \";\" between them");
    String part = "2:9,8-10*3@4";
    String[] whole = {part, part + ";1:8,8-10*3@4", "0:1,1-2*1@0;0:2,1-2*1@0;0:3,1-2*1@0;0:4,1-2*1@0;0:5,1-2*1@0"};
    for (int i : from(0, 2)) {
      HallDiary x = new HallDiary();
      type(x, whole[i]);
      due(whole[i].length(), () -> x.firstError());
      due(new int[] {1, 2, 5}[i], () -> x.lets());
    }
    String[] not = {"", ";", part + ";", ";" + part, part + ";;" + part, part + part, part + ",", part.substring(0, 11), "2:9,8-10*3"};
    int[] errors = {0, 0, 13, 0, 13, 12, 12, 11, 10};
    for (int i : from(0, not.length - 1)) {
      HallDiary x = new HallDiary();
      type(x, not[i]);
      due(errors[i], () -> x.firstError());
      due(WRONG_ARGUMENT, () -> x.lets());
      due(not[i].length(), () -> x.clearBuffer());
    }
  }

  /** Where a text of digits goes wrong as a number in this range without a leading zero; its length if it does not. */
  static int badDigit(String digits, int lowest, int highest) {
    for (int n = 1; n <= digits.length(); n++) {
      boolean isBegin = false;
      for (int v = lowest; v <= highest; v++) isBegin |= ("" + v).startsWith(digits.substring(0, n));
      if (!isBegin) return n - 1;
    }
    return digits.length();
  }

  static void textOfNumbers() {
    String[] sentences = {"each a hall, 0 to 2, \":\"", "a day, 0 to 83, \",\"", "an hour from, 0 to 23, \"-\"", "an hour to, 1 to 24, \"*\"",
        "a rank, 1 to 9, \"@\"", "and a tenant, 0 to 19"};
    String[] before = {"", "1:", "1:5,", "1:5,9-", "1:5,9-12*", "1:5,9-12*3@"};
    String[] behind = {":5,9-12*3@4", ",9-12*3@4", "-24*3@4", "*3@4", "@4", ""};
    int[] lowest = {0, 0, 0, 1, 1, 0};
    int[] highest = {2, 83, 23, 24, 9, 19};
    for (int slot : from(0, 5)) {
      for (int n : from(0, 1109)) {
        // Each text of one, two or three digits.
        String digits = n < 10 ? "" + n : n < 110 ? ("" + n).substring(n < 100 ? 0 : 1) : ("" + (n + 890)).substring(1);
        if (n >= 10 && n < 110) digits = ("" + (n + 90)).substring(1);
        int bad = badDigit(digits, lowest[slot], highest[slot]);
        boolean isRight = bad == digits.length();
        says(bad < digits.length() && digits.charAt(0) == '0' ? "numbers without a leading zero" : sentences[slot]);
        String text = before[slot] + digits + behind[slot];
        HallDiary x = new HallDiary();
        type(x, text);
        due(isRight ? text.length() : before[slot].length() + bad, () -> x.firstError());
        int hours = slot == 3 && isRight && Integer.parseInt(digits) <= 9 ? 0 : 1;
        due(isRight ? hours : WRONG_ARGUMENT, () -> x.lets());
        if (!isRight || hours == 0) continue;
        int what = slot;
        String number = digits;
        due(Integer.parseInt(number), () -> x.singleOf(0, what));
      }
    }
  }

  static void textSignBySign() {
    says("a character is a syntax error if no lets as a text, of any length, begin with the characters before it and this character");
    String digits = "0123456789";
    String[][] next = {{"", "012"}, {"0", ":"}, {"2", ":"}, {"0:", digits}, {"0:0", ","}, {"0:1", digits + ","}, {"0:7", digits + ","},
        {"0:8", "0123,"}, {"0:9", ","}, {"0:10", ","}, {"0:83", ","}, {"0:5,", digits}, {"0:5,0", "-"}, {"0:5,1", digits + "-"},
        {"0:5,2", "0123-"}, {"0:5,3", "-"}, {"0:5,9", "-"}, {"0:5,10", "-"}, {"0:5,23", "-"}, {"0:5,2-", "123456789"},
        {"0:5,2-1", digits + "*"}, {"0:5,2-2", "01234*"}, {"0:5,2-3", "*"}, {"0:5,2-9", "*"}, {"0:5,2-24", "*"},
        {"0:5,2-3*", "123456789"}, {"0:5,2-3*1", "@"}, {"0:5,2-3*9", "@"}, {"0:5,2-3*1@", digits}, {"0:5,2-3*1@0", ";"},
        {"0:5,2-3*1@1", digits + ";"}, {"0:5,2-3*1@2", ";"}, {"0:5,2-3*1@19", ";"}, {"0:5,2-3*1@0;", "012"}, {"0:5,2-3*1@0;2", ":"},
        {"0:5,2-3*1@0;2:", digits}};
    for (String[] pair : next) {
      for (int code : from(33, 126)) {
        boolean goesOn = pair[1].indexOf(code) >= 0;
        HallDiary x = new HallDiary();
        type(x, pair[0]);
        due(pair[0].length(), () -> x.firstError());
        x.append(code);
        due(pair[0].length() + (goesOn ? 1 : 0), () -> x.firstError());
      }
    }
    says("The buffer is read from left to right");
    HallDiary x = new HallDiary();
    type(x, "0:5,2-3x1@0;3:");
    due(7, () -> x.firstError());
    type(x, "3:5,2-3*1@0");
    due(0, () -> x.firstError());
  }

  static void textWithoutHours() {
    says("(The hour to may be one that is not greater than the hour from.)");
    for (int to : from(1, 24)) {
      String text = "0:5,23-" + to + "*1@4";
      HallDiary x = new HallDiary();
      type(x, text);
      due(text.length(), () -> x.firstError());
      due(to > 23 ? 1 : 0, () -> x.lets());
      due(1, () -> x.count(12));
      due(0, () -> x.clearBuffer());
    }
    HallDiary y = new HallDiary();
    due(1, () -> letsOf(y, "0:5,9-9*9@4;0:5,9-8*9@4;0:5,9-10*1@3"));
    due(3, () -> y.singleOf(0, 5));
  }

  static void textOfAnyLength() {
    says("of any length");
    // All of 60 characters: what could go on behind them is no error, but not whole either.
    String three = "0:10,10-12*1@10;0:10,10-12*1@10;0:10,10-12*1@10;";
    String[] lasts = {"0:13,9-12*1@", "0:9,9-12*1@;", "0:9,9-9*1@1;", "0:13,9-12*1;", "0:9,9-12*1@1", "0:9,9-12*1@2", "00,9-12*1@2;"};
    int[] errors = {60, 59, 60, 59, 60, 60, 49};
    for (int i : from(0, lasts.length - 1)) {
      HallDiary x = new HallDiary();
      type(x, three + lasts[i]);
      due(errors[i], () -> x.firstError());
      boolean isWhole = i == 4 || i == 5;
      due(isWhole ? 2 : WRONG_ARGUMENT, () -> x.lets());
      due(isWhole ? 0 : 60, () -> x.clearBuffer());
    }
  }

  // ---- undo, the snapshot

  /** Two lets of each kind, one regular one off once, a snapshot that is not as it is now, three saved states, a text. */
  static HallDiary small() {
    HallDiary x = new HallDiary();
    x.regular(0, 0, 10, 12, 5, 3);
    x.keep();
    x.single(1, 7, 8, 10, 4, 5);
    x.off(0, 21);
    type(x, "0:5,9");
    return x;
  }

  static HallDiary busy() {
    HallDiary x = small();
    x.regular(1, 5, 18, 20, 6, 4);
    x.single(0, 7, 11, 13, 7, 6);
    x.rate(2, 333);
    x.set(2, 10);
    x.set(0, 2);
    return x;
  }

  static void undoableCalls() {
    says("Each method that is marked \"undoable\" and does not throw an exception saves the state from before it (also if it changes nothing)");
    On[] calls = {x -> x.regular(2, 3, 1, 9, 1, 1), x -> x.regular(0, 0, 9, 11, 6, 1), x -> x.single(2, 3, 1, 9, 1, 1),
        x -> x.single(0, 0, 9, 11, 6, 1), x -> x.cancel(true, 0), x -> x.cancel(false, 0), x -> x.off(0, 0), x -> x.rate(0, 100),
        x -> x.rate(1, 1500), x -> x.set(0, 2), x -> x.set(0, 1), x -> x.set(1, 3), x -> x.set(1, 20), x -> x.set(2, 3),
        x -> x.set(2, 50), x -> x.set(3, 3), x -> x.set(3, 0), x -> x.set(4, 4), x -> x.set(4, 11), x -> x.restore()};
    for (On call : calls) {
      HallDiary x = small();
      call.answer(x);
      due(4, () -> x.count(12));
      due(3, () -> x.undo());
      holdsTheSame(x, small());
    }
    for (String text : new String[] {"0:5,9-12*1@2", "0:5,9-9*1@2", "0:0,11-13*5@2"}) {
      HallDiary x = small();
      letsOf(x, text);
      due(4, () -> x.count(12));
      due(3, () -> x.undo());
      HallDiary y = small();
      y.clearBuffer();
      holdsTheSame(x, y);
    }
    HallDiary z = small();
    z.keep();
    due(2, () -> z.restore());
    due(4, () -> z.count(12));
  }

  static void otherCalls() {
    says("Each method that is marked \"undoable\"");
    On[] calls = {x -> x.append(48), x -> x.clearBuffer(), x -> x.firstError(), x -> x.keep()};
    for (On call : calls) {
      HallDiary x = small();
      call.answer(x);
      due(3, () -> x.count(12));
      due(2, () -> x.undo());
      due(1, () -> x.undo());
      due(0, () -> x.undo());
      due(0, () -> x.count(0));
    }
    says("Restores the latest saved state, and drops it.");
    HallDiary y = small();
    due(2, () -> y.undo());
    due(2, () -> y.count(12));
    due(12, () -> y.regularOf(0, 9));
    due(1, () -> y.count(1));
    due(1, () -> y.undo());
    due(0, () -> y.count(1));
    due(12, () -> y.regular(1, 0, 20, 21, 1, 1));
    due(2, () -> y.count(12));
    due(1, () -> y.undo());
    due(1, () -> y.count(0));
    due(0, () -> y.undo());
    due(0, () -> y.count(0));
    due(WRONG_STATE, () -> y.undo());
  }

  static void whatIsSaved() {
    says("all, also the accounts, but the buffer, the saved states and the snapshot");
    HallDiary x = new HallDiary();
    x.single(0, 0, 10, 12, 1, 1);
    due(1, () -> x.single(0, 0, 11, 13, 2, 2));
    int[] before = {0, 1, 1, 2000, 2000, 0, 0, 1, 20, 50, 0, 11, 1};
    int[] behind = {0, 1, 1, 2000, 4000, 2000, 1, 1, 20, 50, 0, 11, 2};
    for (int what : from(0, 12)) due(behind[what], () -> x.count(what));
    x.undo();
    for (int what : from(0, 12)) due(before[what], () -> x.count(what));
    due(1, () -> x.singleOf(0, 5));
    // restore() brings back the accounts of the snapshot too.
    x.keep();
    x.single(0, 0, 11, 13, 2, 2);
    x.rate(0, 100);
    x.set(1, 3);
    x.restore();
    before[12] = 5;
    for (int what : from(0, 12)) due(before[what], () -> x.count(what));
    due(1000, () -> x.price(0, 0, 1, 2));
    // The buffer stays as it is, by undo() and by restore().
    type(x, "0:1");
    due(4, () -> x.undo());
    due(3, () -> x.firstError());
    x.append(';');
    x.restore();
    due(3, () -> x.firstError());
    due(4, () -> x.clearBuffer());
    // The snapshot is neither undone nor changed by undo().
    HallDiary y = new HallDiary();
    y.rate(0, 101);
    y.keep();
    y.undo();
    due(1000, () -> y.price(0, 0, 1, 2));
    due(0, () -> y.restore());
    due(101, () -> y.price(0, 0, 1, 2));
    y.rate(0, 102);
    y.restore();
    y.restore();
    due(101, () -> y.price(0, 0, 1, 2));
    y.undo();
    y.undo();
    due(102, () -> y.price(0, 0, 1, 2));
    // A state that is saved is a copy: what comes later leaves it as it is.
    HallDiary z = new HallDiary();
    z.regular(0, 0, 10, 12, 1, 1);
    z.keep();
    z.rate(0, 500);
    z.off(0, 0);
    z.off(0, 7);
    due(10, () -> z.regularOf(0, 9));
    z.undo();
    due(11, () -> z.regularOf(0, 9));
    z.undo();
    due(12, () -> z.regularOf(0, 9));
    z.off(0, 0);
    z.restore();
    due(12, () -> z.regularOf(0, 9));
    z.off(0, 0);
    z.restore();
    due(12, () -> z.regularOf(0, 9));
  }

  static void sixStates() {
    says("At most 6 states are saved; the oldest one is dropped first.");
    for (int calls : from(0, 14)) {
      HallDiary x = new HallDiary();
      for (int i = 1; i <= calls; i++) x.rate(0, 1000 + i);
      int saved = Math.min(6, calls);
      due(saved, () -> x.count(12));
      for (int i : from(1, saved)) {
        due(saved - i, () -> x.undo());
        due(1000 + calls - i, () -> x.price(0, 0, 0, 1));
      }
      due(WRONG_STATE, () -> x.undo());
    }
  }

  // ---- exceptions

  static void throwingChangesNothing() {
    says("A call that throws an exception changes nothing.");
    On[] outOfBounds = {x -> x.regular(3, 0, 1, 2, 1, 1), x -> x.single(-1, 0, 1, 2, 1, 1), x -> x.cancel(true, 2), x -> x.cancel(false, 2),
        x -> x.cancel(true, -1), x -> x.cancel(false, -1), x -> x.off(2, 0), x -> x.rate(3, 100), x -> x.set(5, 1), x -> x.regularOf(2, 0),
        x -> x.singleOf(2, 0), x -> x.who(3, 0, 0), x -> x.hallOf(3, 0, 0), x -> x.tenant(20, 0), x -> x.refusal(3, 0, 1, 2, 1),
        x -> x.price(3, 0, 1, 2), x -> x.nextFree(3, 0, 1), x -> (long) x.fullness(3)};
    On[] wrongArgument = {x -> x.regular(0, 7, 1, 2, 1, 1), x -> x.regular(0, 0, 1, 2, 1, 20), x -> x.single(0, 84, 1, 2, 1, 1),
        x -> x.single(0, 0, 1, 2, 10, 1), x -> x.off(0, 84), x -> x.rate(0, 99), x -> x.set(0, 5), x -> x.append(32), x -> x.append(127),
        x -> x.lets(), x -> x.regularOf(0, 11), x -> x.singleOf(0, 7), x -> x.who(0, 0, 24), x -> x.hallOf(0, 0, 4), x -> x.tenant(0, 3),
        x -> x.count(13), x -> x.refusal(0, 0, 1, 2, 10), x -> x.price(0, 0, 2, 2), x -> x.nextFree(0, 0, 25)};
    for (Recipe recipe : new Recipe[] {TermsTest::small, TermsTest::busy}) {
      for (On call : outOfBounds) changesNothing(recipe, OUT_OF_BOUNDS, call);
      for (On call : wrongArgument) changesNothing(recipe, WRONG_ARGUMENT, call);
    }
    // The third week, in which the regular let of hall 0 is on, and hall 1 waits for the cleaner.
    Recipe dense = () -> {
      HallDiary x = small();
      x.set(3, 2);
      x.set(4, 2);
      x.single(0, 14, 13, 14, 5, 7);
      x.single(1, 14, 15, 17, 5, 7);
      return x;
    };
    On[] wrongState = {x -> x.regular(0, 0, 9, 11, 5, 1), x -> x.regular(1, 0, 13, 14, 9, 1), x -> x.single(0, 14, 9, 15, 5, 1),
        x -> x.single(1, 14, 13, 14, 9, 1), x -> x.off(0, 21), x -> x.off(0, 1), x -> x.set(0, 2), x -> x.set(3, 3), x -> x.set(4, 1)};
    for (On call : wrongState) changesNothing(dense, WRONG_STATE, call);
    changesNothing(TermsTest::fullOfBoth, WRONG_STATE, x -> x.regular(2, 0, 1, 2, 9, 1));
    changesNothing(TermsTest::fullOfBoth, WRONG_STATE, x -> x.single(2, 0, 1, 2, 9, 1));
    changesNothing(HallDiary::new, WRONG_STATE, x -> x.undo());
    changesNothing(HallDiary::new, WRONG_STATE, x -> x.restore());
    changesNothing(HallDiary::new, WRONG_ARGUMENT, x -> x.lets());
    Recipe fullBuffer = () -> {
      HallDiary x = small();
      for (int i = 5; i < 60; i++) x.append(59);
      return x;
    };
    changesNothing(fullBuffer, WRONG_STATE, x -> x.append(48));
    changesNothing(fullBuffer, WRONG_ARGUMENT, x -> x.lets());
  }

  static void looksChangeNothing() {
    says("looks; nothing is changed");
    for (int what : from(0, 10)) changesNothing(TermsTest::busy, busy().regularOf(1, what), x -> x.regularOf(1, what));
    for (int what : from(0, 6)) changesNothing(TermsTest::busy, busy().singleOf(0, what), x -> x.singleOf(0, what));
    for (int what : from(0, 3)) changesNothing(TermsTest::busy, busy().hallOf(0, 7, what), x -> x.hallOf(0, 7, what));
    for (int what : from(0, 2)) changesNothing(TermsTest::busy, busy().tenant(3, what), x -> x.tenant(3, what));
    for (int what : from(0, 12)) changesNothing(TermsTest::busy, busy().count(what), x -> x.count(what));
    changesNothing(TermsTest::busy, 6, x -> x.who(0, 7, 11));
    says("what would be; nothing is changed");
    changesNothing(TermsTest::busy, 0, x -> x.refusal(0, 7, 10, 12, 9));
    changesNothing(TermsTest::busy, 2, x -> x.refusal(0, 7, 10, 12, 7));
    changesNothing(TermsTest::busy, 2000, x -> x.price(0, 7, 10, 12));
    changesNothing(TermsTest::busy, 24 * 7, x -> x.nextFree(0, 7, 9));
    changesNothing(TermsTest::busy, 24 * 8, x -> x.nextFree(0, 7, 10));
    changesNothing(TermsTest::busy, 4, x -> x.best());
    changesNothing(TermsTest::busy, 0, x -> (long) x.fullness(0));
    changesNothing(TermsTest::busy, (long) busy().meanRent(), x -> (long) x.meanRent());
    changesNothing(TermsTest::busy, busy().digest(), x -> x.digest());
  }

  static void firstOfSeveralExceptions() {
    says("If several exceptions apply, the one that is named first in the throws clause is thrown.");
    HallDiary x = fullOfBoth();
    due(OUT_OF_BOUNDS, () -> x.regular(3, 7, 1, 2, 1, 1));
    due(OUT_OF_BOUNDS, () -> x.regular(3, 0, 1, 2, 1, 1));
    due(WRONG_ARGUMENT, () -> x.regular(0, 7, 1, 2, 1, 1));
    due(WRONG_ARGUMENT, () -> x.regular(0, 0, 24, 25, 1, 1));
    due(WRONG_ARGUMENT, () -> x.regular(0, 0, 2, 2, 1, 1));
    due(WRONG_ARGUMENT, () -> x.regular(0, 0, 1, 2, 0, 1));
    due(WRONG_ARGUMENT, () -> x.regular(0, 0, 1, 2, 1, 20));
    due(OUT_OF_BOUNDS, () -> x.single(3, 84, 1, 2, 1, 1));
    due(OUT_OF_BOUNDS, () -> x.single(3, 0, 1, 2, 1, 1));
    due(WRONG_ARGUMENT, () -> x.single(0, 84, 1, 2, 1, 1));
    due(WRONG_ARGUMENT, () -> x.single(0, 0, -1, 2, 1, 1));
    due(WRONG_ARGUMENT, () -> x.single(0, 0, 2, 1, 1, 1));
    due(WRONG_ARGUMENT, () -> x.single(0, 0, 1, 2, 10, 1));
    due(WRONG_ARGUMENT, () -> x.single(0, 0, 1, 2, 1, -1));
    due(OUT_OF_BOUNDS, () -> x.off(8, 84));
    due(OUT_OF_BOUNDS, () -> x.off(8, 0));
    due(WRONG_ARGUMENT, () -> x.off(0, 84));
    due(WRONG_STATE, () -> x.off(0, 1));
    due(OUT_OF_BOUNDS, () -> x.rate(3, 99));
    due(OUT_OF_BOUNDS, () -> x.set(5, -1));
    due(OUT_OF_BOUNDS, () -> x.set(-1, 101));
    // Weeks out of range are that first, though they would turn the term round too.
    x.set(3, 5);
    x.set(4, 6);
    due(WRONG_ARGUMENT, () -> x.set(3, 12));
    due(WRONG_ARGUMENT, () -> x.set(4, -1));
    due(WRONG_ARGUMENT, () -> x.set(0, 5));
    type(x, "012345678901234567890123456789012345678901234567890123456789");
    due(WRONG_ARGUMENT, () -> x.append(127));
    due(WRONG_STATE, () -> x.append(126));
    due(OUT_OF_BOUNDS, () -> x.regularOf(8, 11));
    due(OUT_OF_BOUNDS, () -> x.singleOf(12, 7));
    due(OUT_OF_BOUNDS, () -> x.who(3, 84, 24));
    due(OUT_OF_BOUNDS, () -> x.hallOf(3, 84, 4));
    due(OUT_OF_BOUNDS, () -> x.tenant(20, 3));
    due(OUT_OF_BOUNDS, () -> x.refusal(3, 84, 2, 2, 10));
    due(OUT_OF_BOUNDS, () -> x.price(3, 84, 2, 2));
    due(OUT_OF_BOUNDS, () -> x.nextFree(3, 84, 25));
  }
}
