import java.util.ArrayList;
import java.util.List;
import java.util.NoSuchElementException;
import java.util.function.LongSupplier;

/** What the tests share: answers compared with those that are due, and calls that must be refused. */
abstract class Checks {
  static final Class<?> INDEX = IndexOutOfBoundsException.class;
  static final Class<?> ARGUMENT = IllegalArgumentException.class;
  static final Class<?> STATE = IllegalStateException.class;
  static final Class<?> ELEMENT = NoSuchElementException.class;

  static final int NONE = Timesheets.NONE;
  static final int REGULAR = Timesheets.REGULAR;
  static final int OVERTIME = Timesheets.OVERTIME;
  static final int DOUBLE = Timesheets.DOUBLE;

  static final int MIN = Integer.MIN_VALUE;
  static final int MAX = Integer.MAX_VALUE;

  /** Calls that bring a new object into a state. */
  interface Steps {
    void on(Timesheets x);
  }

  /** One call of an object; a boolean counts 1 or 0. */
  interface Call {
    long on(Timesheets x);
  }

  /** One call of an object, with a number of which a range is asked. */
  interface CallWith {
    long on(Timesheets x, int number);
  }

  static final Steps NOBODY = x -> { };
  static final Steps ONE = x -> x.hire(1000);
  /** Six employees, each with two punches, an entry and a break; each second one has closed a week. */
  static final Steps SIX = x -> {
    for (int e = 0; e < 6; e++) {
      x.hire(1000 + e);
      if (e % 2 == 1) {
        x.enter(e, 0, 60);
        x.closeWeek(e);
      }
      x.punch(e, 100, true);
      x.punch(e, 200, false);
      x.enter(e, 150, 300);
      x.enterBreak(e, 120, 130 + e);
    }
    x.addPremium(127, 0, 0, 100);
  };
  /** One employee with 40 punches, 20 entries and 20 breaks, and six premiums. */
  static final Steps FULL = x -> {
    x.hire(1000);
    for (int i = 0; i < 40; i++) {
      x.punch(0, 10 + 200 * i, i % 3 != 1);
    }
    for (int i = 0; i < 20; i++) {
      x.enter(0, 400 * i, 400 * i + 50 + i);
      x.enterBreak(0, 30 + 400 * i, 35 + 401 * i);
    }
    for (int i = 0; i < 6; i++) {
      x.addPremium(1 + i, 10 * i, 1000 - 300 * i < 0 ? 0 : 1000 - 300 * i, 100 + i);
    }
  };

  // An object may be used for 512 calls: at most 110 steps, the refused call, seven entries and these questions.
  private static final int MOST_QUESTIONS = 512 - 110 - 1 - 7;

  private static String place = "";
  private static int wrong = 0;

  /** Says what the checks that follow are about: a promise, or a sentence of the document. */
  static void about(String words) {
    place = words;
  }

  static void due(String what, long got, long want) {
    if (got != want) {
      fail(what + " answered " + got + ", due is " + want);
    }
  }

  static void fail(String what) {
    wrong++;
    System.out.println(place + ": " + what);
  }

  static void raises(String what, Class<?> want, LongSupplier call) {
    String got;
    try {
      got = "answered " + call.getAsLong();
    } catch (RuntimeException e) {
      if (e.getClass() == want) {
        return;
      }
      got = "threw " + e.getClass().getName();
    }
    fail(what + " " + got + ", due is " + want.getName());
  }

  static Timesheets withOne(int wage) {
    Timesheets x = new Timesheets();
    x.hire(wage);
    return x;
  }

  static Timesheets after(Steps steps) {
    Timesheets x = new Timesheets();
    steps.on(x);
    return x;
  }

  static void taken(String what, Steps before, Call call, long want) {
    try {
      due(what, call.on(after(before)), want);
    } catch (RuntimeException e) {
      fail(what + " threw " + e.getClass().getName() + ", due is " + want);
    }
  }

  /** The call throws this very exception; the object then answers as one that was never called so. */
  static void refused(String what, Class<?> want, Steps before, Call call) {
    Timesheets called = after(before);
    raises(what, want, () -> call.on(called));
    List<String> got = answersOf(called);
    List<String> untouched = answersOf(after(before));
    for (int i = 0; i < Math.max(got.size(), untouched.size()); i++) {
      String answer = i < got.size() ? got.get(i) : "nothing";
      String original = i < untouched.size() ? untouched.get(i) : "nothing";
      if (!answer.equals(original)) {
        fail(what + ", refused, left " + answer + ", where there was " + original);
        return;
      }
    }
  }

  /** The call is answered, whatever the answer. */
  static void answered(String what, Steps before, Call call) {
    try {
      call.on(after(before));
    } catch (RuntimeException e) {
      fail(what + " threw " + e.getClass().getName() + ", an answer is due");
    }
  }

  /** The least and the greatest number are taken, those beside them and the farthest ones are refused. */
  static void range(String what, Class<?> want, Steps before, int least, int greatest, CallWith call) {
    for (int number : new int[] {least, greatest}) {
      answered(what + " " + number, before, x -> call.on(x, number));
    }
    for (int number : new int[] {least - 1, greatest + 1, MIN, MAX}) {
      refused(what + " " + number, want, before, x -> call.on(x, number));
    }
  }

  /** "Throws IndexOutOfBoundsException if there is no such employee" */
  static void employees(CallWith call) {
    range("of six employees, number", INDEX, SIX, 0, 5, call);
    refused("employee 1 of one", INDEX, ONE, x -> call.on(x, 1));
    refused("employee 0 of none", INDEX, NOBODY, x -> call.on(x, 0));
  }

  /** All that an object tells of what it holds. The last questions take it apart. */
  private static List<String> answersOf(Timesheets x) {
    List<String> answers = new ArrayList<>();
    int employees = x.employees();
    tell(answers, "employees", employees);
    for (int e = 0; e < employees; e++) {
      tellTotals(answers, x, e);
      tellShifts(answers, x, e);
      tellDays(answers, x, e);
    }
    for (int e = 0; e < employees; e++) {
      tellEnteredByHand(answers, x, e);
      tell(answers, "wage of " + e, x.setWage(e, 1));
    }
    tellPremiums(answers, x, employees > 0);
    if (answers.size() > MOST_QUESTIONS) {
      fail("this test asks " + answers.size() + " questions, more than an object is made for");
    }
    return answers;
  }

  private static void tell(List<String> answers, String what, long answer) {
    answers.add(what + " = " + answer);
  }

  private static void tellTotals(List<String> answers, Timesheets x, int e) {
    tell(answers, "closedWeeks of " + e, x.closedWeeks(e));
    tell(answers, "earned of " + e, x.earned(e));
    tell(answers, "overlap of " + e, x.overlap(e));
    tell(answers, "stretches of " + e, x.stretches(e));
    tell(answers, "longestStretch of " + e, x.longestStretch(e));
    tell(answers, "premiumPay of " + e, x.premiumPay(e));
    tell(answers, "pay of " + e, x.pay(e));
  }

  private static void tellShifts(List<String> answers, Timesheets x, int e) {
    int shifts = x.shifts(e);
    tell(answers, "shifts of " + e, shifts);
    tell(answers, "repairedShifts of " + e, x.repairedShifts(e));
    for (int i = 0; i < shifts; i++) {
      tell(answers, "shiftBegin " + i + " of " + e, x.shiftBegin(e, i));
      tell(answers, "shiftEnd " + i + " of " + e, x.shiftEnd(e, i));
    }
  }

  private static void tellDays(List<String> answers, Timesheets x, int e) {
    for (int day = 0; day < 7; day++) {
      tell(answers, "workedOn " + day + " of " + e, x.workedOn(e, day));
      for (int category = REGULAR; category <= DOUBLE; category++) {
        tell(answers, "minutes " + day + ", " + category + " of " + e, x.minutes(e, day, category));
        tell(answers, "quarters " + day + ", " + category + " of " + e, x.quarters(e, day, category));
      }
    }
  }

  /** Takes off the breaks, then the entries, from number 0 on; what is left shows which one it was. */
  private static void tellEnteredByHand(List<String> answers, Timesheets x, int e) {
    int left = 1;
    while (left > 0) {
      left = orNone(() -> x.removeBreak(e, 0));
      tell(answers, "breaks left of " + e, left);
      tell(answers, "stretches of " + e, x.stretches(e));
    }
    left = 1;
    while (left > 0) {
      left = orNone(() -> x.removeEntry(e, 0));
      tell(answers, "entries left of " + e, left);
      tell(answers, "overlap of " + e, x.overlap(e));
    }
  }

  /** An hour on each day, worked by the first employee, shows which premiums are left. */
  private static void tellPremiums(List<String> answers, Timesheets x, boolean someone) {
    for (int day = 0; someone && day < 7; day++) {
      x.enter(0, day * 1440, day * 1440 + 60);
    }
    int left = 1;
    while (left > 0) {
      left = orNone(() -> x.removePremium(0));
      tell(answers, "premiums left", left);
      tell(answers, "premiumPay of 0", someone ? x.premiumPay(0) : 0);
    }
  }

  private static int orNone(LongSupplier removal) {
    try {
      return (int) removal.getAsLong();
    } catch (IndexOutOfBoundsException e) {
      return -1;
    }
  }

  static void finish() {
    System.out.println(wrong == 0 ? "all answers are as due" : wrong + " answers are not as due");
    if (wrong != 0) {
      System.exit(1);
    }
  }
}
