/**
 * The boundary cases of promises 13 to 29, the questions: a test for each sentence, which stands above it. Whatever is
 * refused here is also seen to have changed nothing.
 */
public final class QuestionsBoundaryTest extends Checks {
  private static final int DAY = 1440;
  private static final int WEEK = 10080;

  /** A question about an employee and a number, a minute or a day. */
  private interface Question {
    long on(Timesheets x, int employee, int number);
  }

  /** A question about an employee, a day and a category. */
  private interface DayQuestion {
    long on(Timesheets x, int employee, int day, int category);
  }

  private static final Steps WHOLE_WEEK = x -> {
    x.hire(1000);
    x.enter(0, 0, WEEK);
  };

  // Promises 13 to 15: what is kept of the employees.

  /** "Returns the number of employees."; "Returns 0 to 6." */
  private static void numberOfEmployees() {
    about("Promise 13, 0 to 6 employees");
    taken("employees of none", NOBODY, x -> x.employees(), 0);
    Timesheets x = new Timesheets();
    for (int count = 1; count <= 6; count++) {
      raises("a wrong wage", ARGUMENT, () -> x.hire(0));
      due("not hired", x.employees(), count - 1);
      x.hire(100);
      due("hired", x.employees(), count);
    }
    raises("a seventh", STATE, () -> x.hire(100));
    due("six", x.employees(), 6);
  }

  /** "Returns how many weeks of an employee have been closed."; "if there is no such employee" */
  private static void closedWeeks() {
    about("Promise 14, closedWeeks");
    employees((x, e) -> x.closedWeeks(e));
    Timesheets x = withOne(1000);
    x.hire(1000);
    for (int weeks = 0; weeks < 60; weeks++) {
      due("closedWeeks", x.closedWeeks(0), weeks);
      raises("an empty week", STATE, () -> x.closeWeek(0));
      due("an empty week is not closed", x.closedWeeks(0), weeks);
      x.punch(0, 0, true);
      due("the present week is open", x.closedWeeks(0), weeks);
      x.closeWeek(0);
    }
    due("of the other one", x.closedWeeks(1), 0);
  }

  /** "Returns what an employee has earned in all closed weeks."; "if there is no such employee" */
  private static void earned() {
    about("Promise 15, earned");
    employees((x, e) -> x.earned(e));
    Timesheets x = withOne(400);
    x.hire(800);
    due("nothing", x.earned(0), 0);
    x.enter(0, 0, 60);
    due("the present week", x.earned(0), 0);
    x.closeWeek(0);
    due("one week", x.earned(0), 400);
    x.enter(1, 0, 60);
    x.closeWeek(1);
    x.enter(0, 0, 120);
    due("two, one of them open", x.earned(0), 400);
    x.closeWeek(0);
    due("two", x.earned(0), 1200);
    due("the other one's", x.earned(1), 800);
  }

  /** "long earned": 512 calls close more than an int holds. */
  private static void earnedPastAnInt() {
    about("Promise 15, earned is a long");
    Timesheets x = withOne(100000);
    x.addPremium(127, 0, 0, 10000);
    for (int weeks = 1; weeks <= 80; weeks++) {
      x.enter(0, 0, WEEK);
      x.closeWeek(0);
      due("after " + weeks + " weeks", x.earned(0), weeks * 30375000L);
    }
  }

  /** "An object is used for at most 512 calls after it has been made" */
  private static void the512thCall() {
    about("What it is, the 512th call");
    Timesheets x = withOne(1000);
    for (int weeks = 0; weeks < 255; weeks++) {
      x.enter(0, 0, 60);
      x.closeWeek(0);
    }
    // One employee and 255 weeks were 511 calls.
    due("earned", x.earned(0), 255000);
  }

  // Promises 16 to 19: shifts.

  /** "Returns 0 to 40."; "if there is no such employee" */
  private static void numberOfShifts() {
    about("Promise 16, 0 to 40 shifts");
    employees((x, e) -> x.shifts(e));
    taken("no punches", ONE, x -> x.shifts(0), 0);
    for (boolean in : new boolean[] {true, false}) {
      Timesheets x = withOne(1000);
      for (int i = 0; i < 40; i++) {
        due("shifts", x.shifts(0), i);
        due("repairedShifts", x.repairedShifts(0), i);
        x.punch(0, 250 * i, in);
      }
      due("40 shifts", x.shifts(0), 40);
      due("40 repaired shifts", x.repairedShifts(0), 40);
      raises("a 41st", STATE, () -> x.punch(0, WEEK, in));
      due("still 40", x.shifts(0), 40);
    }
  }

  /** "Throws IndexOutOfBoundsException if there is no such employee or no such shift" */
  private static void numberOfAShift(String promise, Question question) {
    about(promise + ", the employee");
    employees((x, e) -> question.on(x, e, 0));
    refused("no employee and no shift", INDEX, SIX, x -> question.on(x, 6, 1));
    about(promise + ", the number of the shift");
    range("of one, shift", INDEX, SIX, 0, 0, (x, shift) -> question.on(x, 5, shift));
    refused("shift 0 of none", INDEX, ONE, x -> question.on(x, 0, 0));
    Steps forty = x -> {
      x.hire(1000);
      for (int i = 0; i < 40; i++) {
        x.punch(0, 250 * i, true);
      }
    };
    range("of 40, shift", INDEX, forty, 0, 39, (x, shift) -> question.on(x, 0, shift));
    Steps pair = x -> {
      x.hire(1000);
      x.punch(0, 10, true);
      x.punch(0, 20, false);
    };
    refused("shift 1 of two punches that make one", INDEX, pair, x -> question.on(x, 0, 1));
    refused("an entry is no shift", INDEX, WHOLE_WEEK, x -> question.on(x, 0, 0));
    Steps closed = x -> {
      pair.on(x);
      x.closeWeek(0);
    };
    refused("a shift of a closed week", INDEX, closed, x -> question.on(x, 0, 0));
  }

  /** "Returns when a shift begins."; "Returns when a shift ends.": the first, the last, and those between. */
  private static void timesOfShifts() {
    about("Promises 17 and 18, begin and end");
    Timesheets x = withOne(1000);
    for (int i = 0; i < 20; i++) {
      x.punch(0, WEEK - 500 * i, false);
      x.punch(0, WEEK - 500 * i - 499, true);
    }
    due("shifts", x.shifts(0), 20);
    for (int shift = 0; shift < 20; shift++) {
      due("shiftBegin " + shift, x.shiftBegin(0, shift), 81 + 500 * shift);
      due("shiftEnd " + shift, x.shiftEnd(0, shift), 580 + 500 * shift);
    }
  }

  /** "Returns the number of repaired shifts."; "if there is no such employee" */
  private static void repairedShifts() {
    about("Promise 19, repairedShifts");
    employees((x, e) -> x.repairedShifts(e));
    taken("no punches", ONE, x -> x.repairedShifts(0), 0);
    taken("an entry is no shift", WHOLE_WEEK, x -> x.repairedShifts(0), 0);
    Timesheets x = withOne(1000);
    x.punch(0, 1000, true);
    due("in", x.repairedShifts(0), 1);
    x.punch(0, 1480, false);
    due("in, out, as long as a repaired one", x.repairedShifts(0), 0);
    x.punch(0, 1490, false);
    due("in, out, out", x.repairedShifts(0), 1);
    x.punch(0, 900, true);
    due("in, in, out, out", x.repairedShifts(0), 2);
    x.removePunch(0, 1480);
    due("in, in, out", x.repairedShifts(0), 1);
    x.removePunch(0, 1000);
    due("in, out again", x.repairedShifts(0), 0);
  }

  // Promises 20 to 22: coverage, overlap, worked minutes.

  /** "minute: 0 to 10079"; "Throws IllegalArgumentException if minute is out of range", and the pair of exceptions */
  private static void minuteOfTheWeek(String promise, Question question) {
    about(promise + ", the employee");
    employees((x, e) -> question.on(x, e, 125));
    about(promise + ", the range of the minute");
    range("of a whole week, minute", ARGUMENT, WHOLE_WEEK, 0, WEEK - 1, (x, minute) -> question.on(x, 0, minute));
    range("of an empty week, minute", ARGUMENT, ONE, 0, WEEK - 1, (x, minute) -> question.on(x, 0, minute));
    for (int minute : new int[] {-1, WEEK, MIN, MAX}) {
      refused("no employee, minute " + minute, INDEX, SIX, x -> question.on(x, 6, minute));
      refused("employee -1, minute " + minute, INDEX, SIX, x -> question.on(x, -1, minute));
    }
  }

  /** "Returns by how many shifts and entries a minute is covered." */
  private static void coverageOfAll() {
    about("Promise 20, from no shift and entry to 21");
    taken("nothing", ONE, x -> x.coverage(0, 0), 0);
    Timesheets x = withOne(1000);
    for (int i = 1; i <= 20; i++) {
      x.enter(0, 0, WEEK);
      due("entries, the first minute", x.coverage(0, 0), i);
      due("entries, the last minute", x.coverage(0, WEEK - 1), i);
    }
    x.punch(0, WEEK - 1, true);
    due("with a shift, the last minute", x.coverage(0, WEEK - 1), 21);
    due("before the shift", x.coverage(0, WEEK - 2), 20);
    x.punch(0, 1, false);
    due("with a shift, the first minute", x.coverage(0, 0), 21);
    due("after the shift", x.coverage(0, 1), 20);
    x.enterBreak(0, 0, WEEK);
    due("a break covers nothing and takes nothing off", x.coverage(0, 0), 21);
  }

  /** "how many minutes of the week are covered twice or more often" */
  private static void overlap() {
    about("Promise 21, overlap");
    employees((x, e) -> x.overlap(e));
    taken("nothing", ONE, x -> x.overlap(0), 0);
    taken("once", WHOLE_WEEK, x -> x.overlap(0), 0);
    Timesheets x = withOne(1000);
    x.enter(0, 100, 200);
    x.enter(0, 200, 300);
    due("end to end", x.overlap(0), 0);
    x.enter(0, 199, 200);
    due("twice, one minute", x.overlap(0), 1);
    x.enter(0, 199, 201);
    due("three times and twice", x.overlap(0), 2);
    x.punch(0, 299, true);
    due("the first minute of a shift", x.overlap(0), 3);
    x.enter(0, 0, WEEK);
    due("with the whole week", x.overlap(0), 679);
    x.enter(0, 0, WEEK);
    due("with the whole week twice", x.overlap(0), WEEK);
  }

  /** "whether a break contains them or not." */
  private static void overlapInBreaks() {
    about("Promise 21, breaks take nothing off the overlap");
    Timesheets x = withOne(1000);
    x.enter(0, 0, WEEK);
    x.enter(0, 0, WEEK);
    x.enterBreak(0, 0, WEEK);
    due("all in a break", x.overlap(0), WEEK);
    x.enterBreak(0, 0, 1);
    due("in two breaks", x.overlap(0), WEEK);
    x.removeEntry(0, 0);
    due("once and breaks", x.overlap(0), 0);
  }

  /** "Returns how many minutes of a day are worked.": those of the automatic break are. */
  private static void workedMinutes() {
    about("Promise 22, worked minutes");
    for (int day = 0; day < 7; day++) {
      int number = day;
      taken("of a whole day " + day, WHOLE_WEEK, x -> x.workedOn(0, number), DAY);
      taken("of an empty day " + day, ONE, x -> x.workedOn(0, number), 0);
    }
    Timesheets x = withOne(1000);
    x.enter(0, DAY - 1, DAY + 1);
    due("the last minute of day 0", x.workedOn(0, 0), 1);
    due("the first minute of day 1", x.workedOn(0, 1), 1);
    x.enterBreak(0, DAY - 1, DAY);
    due("the last minute in a break", x.workedOn(0, 0), 0);
    due("the first minute still", x.workedOn(0, 1), 1);
  }

  /** "day: 0 to 6"; "Throws IllegalArgumentException if day is out of range", and the pair of exceptions */
  private static void dayOfWorkedOn() {
    about("Promise 22, the employee");
    employees((x, e) -> x.workedOn(e, 0));
    about("Promise 22, the range of the day");
    range("of a whole week, day", ARGUMENT, WHOLE_WEEK, 0, 6, (x, day) -> x.workedOn(0, day));
    range("of an empty week, day", ARGUMENT, ONE, 0, 6, (x, day) -> x.workedOn(0, day));
    for (int day : new int[] {-1, 7, MIN, MAX}) {
      refused("no employee, day " + day, INDEX, SIX, x -> x.workedOn(6, day));
      refused("employee -1, day " + day, INDEX, SIX, x -> x.workedOn(-1, day));
    }
  }

  // Promises 23 and 24: stretches.

  /** "Returns the number of stretches.": from none to as many as the limits let be. */
  private static void numberOfStretches() {
    about("Promise 23, stretches");
    employees((x, e) -> x.stretches(e));
    taken("none", ONE, x -> x.stretches(0), 0);
    taken("the whole week", WHOLE_WEEK, x -> x.stretches(0), 1);
    Timesheets x = withOne(1000);
    // A shift and an entry of five minutes in turn, and a break within each second one.
    for (int i = 0; i < 20; i++) {
      x.punch(0, 20 * i, true);
      x.punch(0, 20 * i + 5, false);
      x.enter(0, 20 * i + 10, 20 * i + 15);
      due("of shifts and entries", x.stretches(0), 2 * i + 2);
    }
    for (int i = 0; i < 20; i++) {
      x.enterBreak(0, 20 * i + 12, 20 * i + 13);
      due("with breaks", x.stretches(0), 41 + i);
    }
    for (int i = 19; i >= 0; i--) {
      x.removeEntry(0, i);
      due("entries removed", x.stretches(0), 60 - 2 * (20 - i));
    }
  }

  /** "20 entries", "20 breaks", "40 punches": at all three limits, with an automatic break wherever there is room. */
  private static void mostPaidSpans() {
    about("Promises 23 to 28, a week at all its limits");
    Timesheets x = withOne(1000);
    x.addPremium(127, 0, 0, 60);
    for (int i = 0; i < 20; i++) {
      int begin = 504 * i;
      x.punch(0, begin, true);
      x.enterBreak(0, begin + 1, begin + 2);
      x.enter(0, begin + 482, begin + 484);
      if (i % 2 == 0) {
        x.punch(0, begin + 486, true);
        x.punch(0, begin + 488, false);
      }
    }
    due("shifts", x.shifts(0), 30);
    due("stretches", x.stretches(0), 70);
    due("the last minute before an automatic break", x.category(0, 504 * 19 + 361), DOUBLE);
    due("an automatic break", x.category(0, 504 * 19 + 362), NONE);
    due("the last paid minute", x.category(0, 504 * 19 + 483), DOUBLE);
    int paid = 0;
    for (int day = 0; day < 7; day++) {
      paid += x.minutes(0, day, REGULAR) + x.minutes(0, day, OVERTIME) + x.minutes(0, day, DOUBLE);
    }
    due("paid minutes", paid, 20 * (1 + 448 + 2) + 10 * 2);
    due("premiumPay", x.premiumPay(0), paid);
  }

  /** "the longest stretch", "those of the automatic break included" */
  private static void longestStretch() {
    about("Promise 24, longestStretch");
    employees((x, e) -> x.longestStretch(e));
    taken("the whole week", WHOLE_WEEK, x -> x.longestStretch(0), WEEK);
    Timesheets x = withOne(1000);
    x.enter(0, 1000, 1361);
    due("one minute of the automatic break", x.longestStretch(0), 361);
    x.enter(0, 2000, 2362);
    due("a longer one later", x.longestStretch(0), 362);
    x.enter(0, 0, 363);
    due("a longer one earlier", x.longestStretch(0), 363);
    x.enter(0, 3000, 3001);
    due("a short one", x.longestStretch(0), 363);
    x.enterBreak(0, 0, 2);
    due("the longest is shortened", x.longestStretch(0), 362);
  }

  /** "0 if there is no stretch." */
  private static void longestOfNone() {
    about("Promise 24, no stretch");
    taken("nothing entered", ONE, x -> x.longestStretch(0), 0);
    Timesheets x = withOne(1000);
    x.enterBreak(0, 0, 100);
    due("a break alone", x.longestStretch(0), 0);
    x.enter(0, 0, 100);
    due("an entry in a break", x.longestStretch(0), 0);
    x.punch(0, 0, false);
    due("a shift without minutes", x.longestStretch(0), 0);
    x.enter(0, 100, 101);
    due("one minute", x.longestStretch(0), 1);
    x.closeWeek(0);
    due("the next week", x.longestStretch(0), 0);
  }

  // Promises 25 to 27: categories, minutes and quarters.

  /** "Returns REGULAR, OVERTIME or DOUBLE; NONE if the minute is not paid." */
  private static void categories() {
    about("Promise 25, the four answers");
    due("NONE", NONE, -1);
    due("REGULAR", REGULAR, 0);
    due("OVERTIME", OVERTIME, 1);
    due("DOUBLE", DOUBLE, 2);
    Timesheets x = after(WHOLE_WEEK);
    due("the first minute", x.category(0, 0), 0);
    due("the automatic break", x.category(0, 360), -1);
    due("d 480", x.category(0, 510), 1);
    due("the last minute", x.category(0, WEEK - 1), 2);
    x.enterBreak(0, WEEK - 1, WEEK);
    due("a break", x.category(0, WEEK - 1), -1);
    due("not covered", withOne(1000).category(0, 0), -1);
  }

  /** "day: 0 to 6"; "category: REGULAR, OVERTIME or DOUBLE"; "if day or category is out of range", and the pairs */
  private static void dayAndCategory(String promise, DayQuestion question) {
    about(promise + ", the employee");
    employees((x, e) -> question.on(x, e, 0, REGULAR));
    for (int good = 0; good < 3; good++) {
      int category = good;
      about(promise + ", the range of the day, category " + category);
      range("day", ARGUMENT, WHOLE_WEEK, 0, 6, (x, day) -> question.on(x, 0, day, category));
    }
    for (int day : new int[] {0, 3, 6}) {
      about(promise + ", the range of the category, day " + day);
      range("category", ARGUMENT, SIX, REGULAR, DOUBLE, (x, category) -> question.on(x, 5, day, category));
    }
    about(promise + ", two faults at once");
    refused("NONE is no category here", ARGUMENT, ONE, x -> question.on(x, 0, 0, NONE));
    int[][] wrong = {{-1, 0}, {7, 0}, {0, -1}, {0, 3}, {-1, -1}, {7, 3}, {MIN, MAX}};
    for (int[] a : wrong) {
      refused("day " + a[0] + ", category " + a[1], ARGUMENT, SIX, x -> question.on(x, 0, a[0], a[1]));
      refused("no employee, wrong day or category", INDEX, SIX, x -> question.on(x, 6, a[0], a[1]));
      refused("employee -1, wrong day or category", INDEX, SIX, x -> question.on(x, -1, a[0], a[1]));
    }
  }

  /** "Returns how many paid minutes of a day have a category.": none, one, and as many as there can be. */
  private static void minutesOfADay() {
    about("Promise 26, minutes");
    Timesheets x = after(WHOLE_WEEK);
    // The 2400th paid minute lies on day 1, behind the 480th of that day.
    int[][] due = {
      {480, 240, 690}, {480, 240, 720}, {0, 720, 720}, {0, 720, 720}, {0, 720, 720}, {0, 720, 720}, {0, 480, 960},
    };
    for (int day = 0; day < 7; day++) {
      for (int category = 0; category < 3; category++) {
        due("day " + day + ", category " + category, x.minutes(0, day, category), due[day][category]);
      }
    }
    Timesheets y = withOne(1000);
    for (int day = 0; day < 7; day++) {
      due("an empty day", y.minutes(0, day, REGULAR), 0);
      y.enter(0, day * DAY + DAY - 1, day * DAY + DAY);
    }
    for (int day = 0; day < 7; day++) {
      due("one minute REGULAR", y.minutes(0, day, REGULAR), day == 6 ? 0 : 1);
      due("one minute OVERTIME", y.minutes(0, day, OVERTIME), day == 6 ? 1 : 0);
      due("no minute DOUBLE", y.minutes(0, day, DOUBLE), 0);
    }
  }

  /** "Returns how many quarters of a category a day has.": none, and as many as there can be. */
  private static void quartersOfADay() {
    about("Promise 27, quarters");
    Timesheets x = after(WHOLE_WEEK);
    int[][] due = {{32, 16, 46}, {32, 16, 48}, {0, 48, 48}, {0, 48, 48}, {0, 48, 48}, {0, 48, 48}, {0, 32, 64}};
    for (int day = 0; day < 7; day++) {
      for (int category = 0; category < 3; category++) {
        int quarters = x.quarters(0, day, category);
        due("day " + day + ", category " + category, quarters, due[day][category]);
        due("an empty week", withOne(1000).quarters(0, day, category), 0);
      }
    }
  }

  // Promises 28 and 29: pay.

  /** "Returns the premium pay of the present week."; "if there is no such employee": none, the least, the greatest. */
  private static void premiumPay() {
    about("Promise 28, premiumPay");
    employees((x, e) -> x.premiumPay(e));
    taken("an empty week", ONE, x -> x.premiumPay(0), 0);
    taken("no premiums", WHOLE_WEEK, x -> x.premiumPay(0), 0);
    Timesheets x = after(WHOLE_WEEK);
    x.addPremium(127, 0, 0, 10000);
    due("10050 minutes at the greatest rate", x.premiumPay(0), 1675000);
    x.closeWeek(0);
    due("the next week", x.premiumPay(0), 0);
    x.enter(0, 0, 1);
    due("one minute at the greatest rate: 166.67", x.premiumPay(0), 167);
    Timesheets y = after(WHOLE_WEEK);
    y.addPremium(1, 0, 1, 29);
    due("one minute at 29", y.premiumPay(0), 0);
    y.addPremium(1, 0, 1, 30);
    due("one minute at 30: half a cent", y.premiumPay(0), 1);
  }

  /** "Premiums hold for all employees." */
  private static void premiumsOfAll() {
    about("Promise 28, premiums hold for all employees");
    Timesheets x = new Timesheets();
    x.addPremium(127, 0, 0, 60);
    for (int e = 0; e < 6; e++) {
      x.hire(100);
      x.enter(e, 0, 10 + e);
    }
    for (int e = 0; e < 6; e++) {
      due("of employee " + e, x.premiumPay(e), 10 + e);
    }
    x.removePremium(0);
    for (int e = 0; e < 6; e++) {
      due("removed, of employee " + e, x.premiumPay(e), 0);
    }
  }

  /** "Returns the pay of the present week"; "if there is no such employee": nothing, the least, very much. */
  private static void pay() {
    about("Promise 29, pay");
    employees((x, e) -> x.pay(e));
    taken("an empty week", ONE, x -> x.pay(0), 0);
    Timesheets x = withOne(1);
    x.enter(0, 0, 22);
    due("a quarter of a cent", x.pay(0), 0);
    x.enter(0, 22, 23);
    due("half a cent", x.pay(0), 1);
    Timesheets y = withOne(100000);
    y.enter(0, 0, WEEK);
    // 960 minutes REGULAR, 3840 OVERTIME, 5250 DOUBLE: 64, 256 and 350 quarters.
    due("the whole week at the greatest wage", y.pay(0), 1600000 + 9600000 + 17500000);
    y.closeWeek(0);
    due("the next week", y.pay(0), 0);
  }

  /** "the basic pay and the premium pay together." */
  private static void bothPays() {
    about("Promise 29, basic pay and premium pay together");
    Timesheets x = withOne(2000);
    x.enter(0, 0, 7);
    due("7 minutes are no quarter", x.pay(0), 0);
    x.addPremium(1, 0, 0, 60);
    due("but have premiums", x.pay(0), 7);
    x.enter(0, 7, 8);
    due("8 minutes are a quarter", x.pay(0), 500 + 8);
    due("premiumPay", x.premiumPay(0), 8);
  }

  public static void main(String[] args) {
    numberOfEmployees();
    closedWeeks();
    earned();
    earnedPastAnInt();
    the512thCall();
    numberOfShifts();
    numberOfAShift("Promise 17", Timesheets::shiftBegin);
    numberOfAShift("Promise 18", Timesheets::shiftEnd);
    timesOfShifts();
    repairedShifts();
    minuteOfTheWeek("Promise 20", Timesheets::coverage);
    coverageOfAll();
    overlap();
    overlapInBreaks();
    workedMinutes();
    dayOfWorkedOn();
    numberOfStretches();
    mostPaidSpans();
    longestStretch();
    longestOfNone();
    minuteOfTheWeek("Promise 25", Timesheets::category);
    categories();
    dayAndCategory("Promise 26", Timesheets::minutes);
    minutesOfADay();
    dayAndCategory("Promise 27", Timesheets::quarters);
    quartersOfADay();
    premiumPay();
    premiumsOfAll();
    pay();
    bothPays();
    finish();
  }
}
