import java.util.ArrayList;
import java.util.List;

/**
 * The boundary cases of promises 1 to 12, the calls that change something: a test for each sentence, which stands
 * above it. Whatever is refused here is also seen to have changed nothing.
 */
public final class CallsBoundaryTest extends Checks {
  private static final int WEEK = 10080;

  // Promise 1: a new object.

  /** "Makes an engine without employees" */
  private static void newObjectWithoutEmployees() {
    about("Promise 1, without employees");
    taken("employees", NOBODY, x -> x.employees(), 0);
    refused("setWage(0, 1)", INDEX, NOBODY, x -> x.setWage(0, 1));
    taken("hire", NOBODY, x -> x.hire(1), 0);
    Timesheets first = after(SIX);
    due("employees of an object made after another", new Timesheets().employees(), 0);
    due("employees of the first one", first.employees(), 6);
  }

  /** "and premiums." */
  private static void newObjectWithoutPremiums() {
    about("Promise 1, without premiums");
    refused("removePremium(0)", INDEX, NOBODY, x -> x.removePremium(0));
    taken("addPremium", NOBODY, x -> x.addPremium(1, 0, 0, 1), 0);
    after(FULL);
    Timesheets second = withOne(1000);
    second.enter(0, 0, 60);
    due("premiumPay of an object made after another", second.premiumPay(0), 0);
  }

  // Promise 2: hire.

  /** "Adds an employee, whose week is empty." */
  private static void hireWithAnEmptyWeek() {
    about("Promise 2, the week of a new employee is empty");
    Timesheets x = after(FULL);
    int e = x.hire(2000);
    due("shifts", x.shifts(e), 0);
    due("stretches", x.stretches(e), 0);
    due("coverage", x.coverage(e, 0), 0);
    due("pay", x.pay(e), 0);
    due("earned", x.earned(e), 0);
    due("closedWeeks", x.closedWeeks(e), 0);
    raises("removeEntry", INDEX, () -> x.removeEntry(e, 0));
    raises("removeBreak", INDEX, () -> x.removeBreak(e, 0));
    raises("closeWeek", STATE, () -> x.closeWeek(e));
  }

  /** "wage: cents per hour, 1 to 100000"; "Throws IllegalArgumentException if wage is out of range" */
  private static void wageOfHire() {
    about("Promise 2, the range of the wage");
    range("hire", ARGUMENT, NOBODY, 1, 100000, (x, wage) -> x.hire(wage));
    Timesheets x = new Timesheets();
    x.hire(1);
    x.hire(100000);
    due("the least wage", x.setWage(0, 5), 1);
    due("the greatest wage", x.setWage(1, 5), 100000);
  }

  /** "Returns the number of the employee, from 0."; "Throws IllegalStateException if there are 6 employees already" */
  private static void sixEmployees() {
    about("Promise 2, six employees");
    Timesheets x = new Timesheets();
    for (int e = 0; e < 6; e++) {
      due("hire", x.hire(100 + e), e);
    }
    refused("a seventh", STATE, SIX, y -> y.hire(1000));
  }

  /** "If several exceptions apply": IllegalArgumentException stands before IllegalStateException. */
  private static void hireWithTwoFaults() {
    about("Promise 2, a wrong wage of a seventh employee");
    for (int wage : new int[] {0, 100001}) {
      refused("hire(" + wage + ")", ARGUMENT, SIX, x -> x.hire(wage));
    }
  }

  // Promise 3: setWage.

  /** "Throws IndexOutOfBoundsException if there is no such employee" */
  private static void employeeOfSetWage() {
    about("Promise 3, setWage");
    employees((x, e) -> x.setWage(e, 500));
  }

  /** "wage: cents per hour, 1 to 100000"; "Throws IllegalArgumentException if wage is out of range" */
  private static void wageOfSetWage() {
    about("Promise 3, the range of the wage");
    range("setWage", ARGUMENT, SIX, 1, 100000, (x, wage) -> x.setWage(5, wage));
  }

  /** "If several exceptions apply": IndexOutOfBoundsException stands before IllegalArgumentException. */
  private static void setWageWithTwoFaults() {
    about("Promise 3, a wrong wage of no employee");
    for (int wage : new int[] {0, 100001}) {
      refused("setWage(6, " + wage + ")", INDEX, SIX, x -> x.setWage(6, wage));
      refused("setWage(-1, " + wage + ")", INDEX, SIX, x -> x.setWage(-1, wage));
    }
  }

  /** "Returns the wage before." */
  private static void wageBefore() {
    about("Promise 3, the wage before");
    Timesheets x = withOne(1);
    due("the first time", x.setWage(0, 100000), 1);
    due("the second time", x.setWage(0, 100000), 100000);
    due("the same wage again", x.setWage(0, 1), 100000);
  }

  /** "for the whole present week and those that follow." */
  private static void wageOfTheWeek() {
    about("Promise 3, the whole present week and those that follow");
    Timesheets x = withOne(400);
    x.hire(400);
    x.enter(0, 0, 60);
    x.closeWeek(0);
    x.enter(0, 0, 60);
    x.enter(1, 0, 60);
    x.setWage(0, 800);
    due("what is closed already stays", x.earned(0), 400);
    due("the present week", x.pay(0), 800);
    due("another employee", x.pay(1), 400);
    x.closeWeek(0);
    x.enter(0, 0, 60);
    due("the week that follows", x.pay(0), 800);
  }

  // Promise 4: punch.

  /** "Throws IndexOutOfBoundsException if there is no such employee" */
  private static void employeeOfPunch() {
    about("Promise 4, punch");
    employees((x, e) -> x.punch(e, 700, true));
  }

  /** "time: 0 to 10080"; "Throws IllegalArgumentException if time is out of range" */
  private static void timeOfPunch() {
    about("Promise 4, the range of the time");
    range("punch in at", ARGUMENT, ONE, 0, WEEK, (x, time) -> x.punch(0, time, true));
    range("punch out at", ARGUMENT, SIX, 0, WEEK, (x, time) -> x.punch(5, time, false));
  }

  /** "Returns the number of punches of the employee after the call." */
  private static void numberOfPunches() {
    about("Promise 4, the number of punches");
    Timesheets x = withOne(1000);
    x.hire(1000);
    due("the first", x.punch(0, 500, true), 1);
    due("an earlier one", x.punch(0, 0, true), 2);
    due("of another employee", x.punch(1, 500, true), 1);
    due("a later one", x.punch(0, WEEK, false), 3);
    x.removePunch(0, 0);
    due("after one was removed", x.punch(0, 1, false), 3);
  }

  /** "Throws IllegalStateException if the employee has a punch at this time" */
  private static void punchAtTheSameTime() {
    about("Promise 4, a punch at this time");
    for (int time : new int[] {0, 500, WEEK}) {
      for (boolean first : new boolean[] {true, false}) {
        Steps before = x -> {
          x.hire(1000);
          x.hire(1000);
          x.punch(0, time, first);
          x.punch(0, 4000, true);
        };
        refused("in at " + time, STATE, before, x -> x.punch(0, time, true));
        refused("out at " + time, STATE, before, x -> x.punch(0, time, false));
        taken("a minute beside " + time, before, x -> x.punch(0, time == 0 ? 1 : time - 1, true), 3);
        taken("another employee at " + time, before, x -> x.punch(1, time, true), 1);
      }
    }
  }

  /** "or 40 punches, already" */
  private static void fortyPunches() {
    about("Promise 4, 40 punches");
    Timesheets x = withOne(1000);
    x.hire(1000);
    for (int i = 1; i <= 40; i++) {
      due("punch", x.punch(0, WEEK - 7 * i, i % 2 == 0), i);
    }
    raises("a 41st", STATE, () -> x.punch(0, 1, true));
    due("another employee", x.punch(1, 1, true), 1);
    refused("a 41st in", STATE, FULL, y -> y.punch(0, 0, true));
    refused("a 41st out", STATE, FULL, y -> y.punch(0, WEEK, false));
    refused("a 41st at the time of another", STATE, FULL, y -> y.punch(0, 10, true));
    Timesheets z = after(FULL);
    z.removePunch(0, 10);
    due("one was removed", z.punch(0, 11, true), 40);
  }

  /** "If several exceptions apply": each pair of the throws clause that can apply at once. */
  private static void punchWithTwoFaults() {
    about("Promise 4, two faults at once");
    for (int time : new int[] {-1, WEEK + 1}) {
      refused("no employee, wrong time", INDEX, SIX, x -> x.punch(6, time, true));
      refused("employee -1, wrong time", INDEX, SIX, x -> x.punch(-1, time, true));
      refused("wrong time, 40 punches", ARGUMENT, FULL, x -> x.punch(0, time, true));
      refused("no employee, wrong time, the only one has 40 punches", INDEX, FULL, x -> x.punch(1, time, true));
    }
    refused("no employee, the only one has 40 punches", INDEX, FULL, x -> x.punch(1, 0, true));
    refused("no employee, another one has a punch at this time", INDEX, SIX, x -> x.punch(6, 100, true));
  }

  // Promise 5: removePunch.

  /** "Throws IndexOutOfBoundsException if there is no such employee" */
  private static void employeeOfRemovePunch() {
    about("Promise 5, removePunch");
    employees((x, e) -> x.removePunch(e, 100) ? 1 : 0);
  }

  /** "time: any number" */
  private static void anyTimeOfRemovePunch() {
    about("Promise 5, any number is a time");
    for (int time : new int[] {MIN, -1, 0, WEEK, WEEK + 1, MAX}) {
      refused("removePunch at " + time, ELEMENT, SIX, x -> x.removePunch(0, time) ? 1 : 0);
    }
    Steps edges = x -> {
      x.hire(1000);
      x.punch(0, 0, true);
      x.punch(0, WEEK, true);
    };
    taken("removePunch at 0", edges, x -> x.removePunch(0, 0) ? 1 : 0, 1);
    taken("removePunch at 10080", edges, x -> x.removePunch(0, WEEK) ? 1 : 0, 1);
  }

  /** "Throws java.util.NoSuchElementException if the employee has no punch at this time" */
  private static void noPunchAtThisTime() {
    about("Promise 5, no punch at this time");
    refused("without punches", ELEMENT, ONE, x -> x.removePunch(0, 0) ? 1 : 0);
    for (int time : new int[] {99, 101, 199, 201, 150}) {
      refused("at " + time, ELEMENT, SIX, x -> x.removePunch(5, time) ? 1 : 0);
    }
    refused("of 40", ELEMENT, FULL, x -> x.removePunch(0, 9) ? 1 : 0);
    Steps other = x -> {
      x.hire(1000);
      x.hire(1000);
      x.punch(0, 100, true);
    };
    refused("a punch of another employee", ELEMENT, other, x -> x.removePunch(1, 100) ? 1 : 0);
    Steps removed = x -> {
      x.hire(1000);
      x.punch(0, 100, true);
      x.removePunch(0, 100);
    };
    refused("a punch removed already", ELEMENT, removed, x -> x.removePunch(0, 100) ? 1 : 0);
    Steps closed = x -> {
      x.hire(1000);
      x.punch(0, 100, true);
      x.closeWeek(0);
    };
    refused("a punch of a closed week", ELEMENT, closed, x -> x.removePunch(0, 100) ? 1 : 0);
  }

  /** "If several exceptions apply": IndexOutOfBoundsException stands before NoSuchElementException. */
  private static void removePunchWithTwoFaults() {
    about("Promise 5, no punch of no employee");
    refused("employee 6", INDEX, SIX, x -> x.removePunch(6, 99) ? 1 : 0);
    refused("employee -1", INDEX, SIX, x -> x.removePunch(-1, -1) ? 1 : 0);
    refused("employee 0 of none", INDEX, NOBODY, x -> x.removePunch(0, 0) ? 1 : 0);
  }

  /** "Returns true if it was a punch in." */
  private static void wasAPunchIn() {
    about("Promise 5, true for a punch in");
    Timesheets x = withOne(1000);
    for (int i = 0; i < 40; i++) {
      x.punch(0, 100 * i, i % 3 == 0);
    }
    int[] order = {39, 0, 20, 1, 38, 19, 21};
    for (int i : order) {
      due("number " + i, x.removePunch(0, 100 * i) ? 1 : 0, i % 3 == 0 ? 1 : 0);
    }
    due("33 are left", x.punch(0, 0, true), 34);
    due("a new one at an old time", x.removePunch(0, 0) ? 1 : 0, 1);
  }

  // Promises 6 and 8: entries and breaks are entered alike.

  private interface Entering {
    int on(Timesheets x, int employee, int from, int to);
  }

  private interface Removing {
    int on(Timesheets x, int employee, int number);
  }

  /** "Throws IndexOutOfBoundsException if there is no such employee" */
  private static void employeeOfSpan(String promise, Entering span) {
    about(promise + ", the employee");
    employees((x, e) -> span.on(x, e, 0, WEEK));
  }

  /** "from: 0 to 10079"; "Throws IllegalArgumentException if from or to is out of range" */
  private static void fromOfSpan(String promise, Entering span) {
    about(promise + ", the range of from");
    range("to 10080 from", ARGUMENT, ONE, 0, WEEK - 1, (x, from) -> span.on(x, 0, from, WEEK));
    refused("from -1 to 0", ARGUMENT, ONE, x -> span.on(x, 0, -1, 0));
    refused("from 10080 to 10081", ARGUMENT, ONE, x -> span.on(x, 0, WEEK, WEEK + 1));
    refused("from MAX to MIN", ARGUMENT, ONE, x -> span.on(x, 0, MAX, MIN));
    refused("from MIN to MAX", ARGUMENT, ONE, x -> span.on(x, 0, MIN, MAX));
  }

  /** "to: from + 1 to 10080"; "Throws IllegalArgumentException if from or to is out of range" */
  private static void toOfSpan(String promise, Entering span) {
    for (int from : new int[] {0, 5000, WEEK - 1}) {
      about(promise + ", the range of to, from " + from);
      range("to", ARGUMENT, SIX, from + 1, WEEK, (x, to) -> span.on(x, 5, from, to));
    }
  }

  /** "Returns the number" ... "if the employee has 20" ... "already" */
  private static void twentySpans(String promise, Entering span) {
    about(promise + ", 20 of an employee");
    Timesheets x = withOne(1000);
    x.hire(1000);
    for (int i = 0; i < 20; i++) {
      due("its number", span.on(x, 0, 9000 - 100 * i, WEEK), i);
    }
    raises("a 21st", STATE, () -> span.on(x, 0, 0, 1));
    due("another employee", span.on(x, 1, 0, 1), 0);
    refused("a 21st", STATE, FULL, y -> span.on(y, 0, 0, WEEK));
  }

  /** "If several exceptions apply": each pair of the throws clause that can apply at once. */
  private static void spanWithTwoFaults(String promise, Entering span) {
    about(promise + ", two faults at once");
    int[][] wrongSpans = {{-1, 10}, {WEEK, WEEK + 1}, {10, 10}, {10, WEEK + 1}};
    for (int[] wrong : wrongSpans) {
      refused("no employee, wrong span", INDEX, SIX, x -> span.on(x, 6, wrong[0], wrong[1]));
      refused("employee -1, wrong span", INDEX, SIX, x -> span.on(x, -1, wrong[0], wrong[1]));
      refused("wrong span, 20 already", ARGUMENT, FULL, x -> span.on(x, 0, wrong[0], wrong[1]));
      refused("no employee, wrong span, 20 already", INDEX, FULL, x -> span.on(x, 1, wrong[0], wrong[1]));
    }
    refused("no employee, 20 already", INDEX, FULL, x -> span.on(x, 1, 0, 1));
  }

  // Promises 7 and 9: entries and breaks are removed alike.

  /** "Throws IndexOutOfBoundsException if there is no such employee" */
  private static void employeeOfRemoval(String promise, Removing removal) {
    about(promise + ", the employee");
    employees((x, e) -> removal.on(x, e, 0));
    refused("no employee and no such number", INDEX, SIX, x -> removal.on(x, 6, 1));
  }

  /** "Throws IndexOutOfBoundsException" ... "or no such entry"; "or no such break" */
  private static void numberOfRemoval(String promise, Entering span, Removing removal) {
    about(promise + ", the number");
    range("of 20, number", INDEX, FULL, 0, 19, (x, number) -> removal.on(x, 0, number));
    range("of one, number", INDEX, SIX, 0, 0, (x, number) -> removal.on(x, 5, number));
    refused("number 0 of none", INDEX, ONE, x -> removal.on(x, 0, 0));
    Steps other = x -> {
      x.hire(1000);
      x.hire(1000);
      span.on(x, 0, 0, 10);
    };
    refused("that of another employee", INDEX, other, x -> removal.on(x, 1, 0));
    Steps closed = x -> {
      x.hire(1000);
      x.enter(0, 0, 10);
      span.on(x, 0, 0, 10);
      x.closeWeek(0);
    };
    refused("that of a closed week", INDEX, closed, x -> removal.on(x, 0, 0));
  }

  /** "Returns the number of entries left."; "Returns the number of breaks left." */
  private static void leftAfterRemoval(String promise, Entering span, Removing removal) {
    about(promise + ", how many are left");
    Timesheets x = after(FULL);
    for (int left = 19; left >= 0; left--) {
      due("the last of " + (left + 1), removal.on(x, 0, left), left);
    }
    raises("none is left", INDEX, () -> removal.on(x, 0, 0));
    due("a new one", span.on(x, 0, 0, 1), 0);
    due("it is removed", removal.on(x, 0, 0), 0);
  }

  /** "those with greater numbers get numbers less by 1.": each of 20 has a length of its own, which tells it. */
  private static void numbersAfterRemoval(String promise, Entering span, Removing removal, Call minutes) {
    for (int first : new int[] {0, 1, 10, 18, 19}) {
      about(promise + ", greater numbers get less by 1, number " + first + " is removed first");
      Timesheets x = withOne(1000);
      List<Integer> lengths = new ArrayList<>();
      for (int i = 0; i < 20; i++) {
        due("its number", span.on(x, 0, 60 * i, 60 * i + i + 1), i);
        lengths.add(i + 1);
      }
      int number = first;
      while (!lengths.isEmpty()) {
        long before = minutes.on(x);
        removal.on(x, 0, number);
        due("length of number " + number, before - minutes.on(x), lengths.remove(number));
        number = (number + 7) % Math.max(lengths.size(), 1);
      }
    }
  }

  /** "Entries are numbered from 0 in the order in which they are made.": a removed one leaves no gap. */
  private static void numbersOfNewSpans(String promise, Entering span, Removing removal, Call minutes) {
    about(promise + ", a new one after a removal is the last");
    Timesheets x = withOne(1000);
    for (int i = 0; i < 20; i++) {
      span.on(x, 0, 60 * i, 60 * i + 1);
    }
    removal.on(x, 0, 3);
    due("its number", span.on(x, 0, 0, 50), 19);
    raises("a 21st", STATE, () -> span.on(x, 0, 0, 1));
    due("minutes with it", minutes.on(x), 50 + 18);
    removal.on(x, 0, 19);
    due("minutes without it", minutes.on(x), 19);
  }

  private static void entries() {
    Call minutes = x -> x.workedOn(0, 0);
    employeeOfSpan("Promise 6", Timesheets::enter);
    fromOfSpan("Promise 6", Timesheets::enter);
    toOfSpan("Promise 6", Timesheets::enter);
    twentySpans("Promise 6", Timesheets::enter);
    spanWithTwoFaults("Promise 6", Timesheets::enter);
    numbersOfNewSpans("Promise 6", Timesheets::enter, Timesheets::removeEntry, minutes);
    employeeOfRemoval("Promise 7", Timesheets::removeEntry);
    numberOfRemoval("Promise 7", Timesheets::enter, Timesheets::removeEntry);
    leftAfterRemoval("Promise 7", Timesheets::enter, Timesheets::removeEntry);
    numbersAfterRemoval("Promise 7", Timesheets::enter, Timesheets::removeEntry, minutes);
  }

  private static void breaks() {
    Call minutes = x -> {
      int entry = x.enter(0, 0, 1440);
      int worked = x.workedOn(0, 0);
      x.removeEntry(0, entry);
      return 1440 - worked;
    };
    employeeOfSpan("Promise 8", Timesheets::enterBreak);
    fromOfSpan("Promise 8", Timesheets::enterBreak);
    toOfSpan("Promise 8", Timesheets::enterBreak);
    twentySpans("Promise 8", Timesheets::enterBreak);
    spanWithTwoFaults("Promise 8", Timesheets::enterBreak);
    numbersOfNewSpans("Promise 8", Timesheets::enterBreak, Timesheets::removeBreak, minutes);
    employeeOfRemoval("Promise 9", Timesheets::removeBreak);
    numberOfRemoval("Promise 9", Timesheets::enterBreak, Timesheets::removeBreak);
    leftAfterRemoval("Promise 9", Timesheets::enterBreak, Timesheets::removeBreak);
    numbersAfterRemoval("Promise 9", Timesheets::enterBreak, Timesheets::removeBreak, minutes);
  }

  /** Promises 6 and 8 have a limit of their own each: "20 entries", "20 breaks". */
  private static void limitsApart() {
    about("Promises 4, 6 and 8, each limit is its own");
    Timesheets x = withOne(1000);
    for (int i = 0; i < 20; i++) {
      x.enter(0, 0, 100);
    }
    due("a break beside 20 entries", x.enterBreak(0, 0, 1), 0);
    due("a punch beside 20 entries", x.punch(0, 0, true), 1);
    raises("a 21st entry", STATE, () -> x.enter(0, 0, 100));
    Timesheets y = withOne(1000);
    for (int i = 0; i < 20; i++) {
      y.enterBreak(0, 0, 100);
    }
    due("an entry beside 20 breaks", y.enter(0, 0, 1), 0);
    raises("a 21st break", STATE, () -> y.enterBreak(0, 0, 100));
  }

  // Promise 10: addPremium.

  private static final Steps SIX_PREMIUMS = x -> {
    x.hire(1000);
    x.enter(0, 0, WEEK);
    for (int i = 0; i < 6; i++) {
      x.addPremium(1 + i, 100 * i, 1000 - 150 * i, 1 + i);
    }
  };

  /** "days: the set of days, 1 to 127: bit k for day k" */
  private static void daysOfAddPremium() {
    about("Promise 10, the range of days");
    range("days", ARGUMENT, SIX, 1, 127, (x, days) -> x.addPremium(days, 10, 20, 30));
  }

  /** "from: a minute of the day, 0 to 1439" */
  private static void fromOfAddPremium() {
    about("Promise 10, the range of from");
    range("from", ARGUMENT, SIX, 0, 1439, (x, from) -> x.addPremium(1, from, 20, 30));
  }

  /** "to: a minute of the day, 0 to 1439" */
  private static void toOfAddPremium() {
    about("Promise 10, the range of to");
    range("to", ARGUMENT, SIX, 0, 1439, (x, to) -> x.addPremium(1, 10, to, 30));
  }

  /** "rate: cents per hour, 1 to 10000" */
  private static void rateOfAddPremium() {
    about("Promise 10, the range of the rate");
    range("rate", ARGUMENT, SIX, 1, 10000, (x, rate) -> x.addPremium(1, 10, 20, rate));
    Timesheets x = withOne(1000);
    x.enter(0, 0, 60);
    x.addPremium(1, 0, 0, 1);
    due("the least rate", x.premiumPay(0), 1);
    x.addPremium(1, 0, 0, 10000);
    due("the greatest rate", x.premiumPay(0), 10000);
  }

  /** "Returns the number of the premium."; "Throws IllegalStateException if there are 6 premiums already" */
  private static void sixPremiums() {
    about("Promise 10, six premiums");
    Timesheets x = new Timesheets();
    for (int i = 0; i < 6; i++) {
      due("addPremium", x.addPremium(127, 0, 0, 1), i);
    }
    raises("a seventh, without employees", STATE, () -> x.addPremium(127, 0, 0, 1));
    refused("a seventh", STATE, SIX_PREMIUMS, y -> y.addPremium(127, 0, 0, 10000));
    x.removePremium(2);
    due("one was removed", x.addPremium(127, 0, 0, 1), 5);
    raises("a seventh again", STATE, () -> x.addPremium(127, 0, 0, 1));
  }

  /** "If several exceptions apply": IllegalArgumentException stands before IllegalStateException. */
  private static void addPremiumWithTwoFaults() {
    about("Promise 10, a wrong seventh premium");
    int[][] wrong = {
      {0, 1, 2, 3}, {128, 1, 2, 3}, {1, -1, 2, 3}, {1, 1440, 2, 3}, {1, 1, -1, 3}, {1, 1, 1440, 3}, {1, 1, 2, 0},
      {1, 1, 2, 10001}, {0, -1, 1440, 0},
    };
    for (int[] a : wrong) {
      refused("days " + a[0] + ", from " + a[1] + ", to " + a[2] + ", rate " + a[3], ARGUMENT, SIX_PREMIUMS,
          x -> x.addPremium(a[0], a[1], a[2], a[3]));
    }
  }

  // Promise 11: removePremium.

  /** "Throws IndexOutOfBoundsException if there is no such premium" */
  private static void numberOfRemovePremium() {
    about("Promise 11, the number");
    range("of six, number", INDEX, SIX_PREMIUMS, 0, 5, (x, number) -> x.removePremium(number));
    range("of one, number", INDEX, SIX, 0, 0, (x, number) -> x.removePremium(number));
    refused("number 0 of none", INDEX, ONE, x -> x.removePremium(0));
  }

  /** "Returns the number of premiums left." */
  private static void leftAfterRemovePremium() {
    about("Promise 11, how many are left");
    Timesheets x = after(SIX_PREMIUMS);
    for (int left = 5; left >= 0; left--) {
      due("the last of " + (left + 1), x.removePremium(left), left);
    }
    raises("none is left", INDEX, () -> x.removePremium(0));
    due("premiumPay", x.premiumPay(0), 0);
    due("a new one", x.addPremium(1, 0, 0, 1), 0);
  }

  /** "those with greater numbers get numbers less by 1.": the rates grow with the days, so each can be told. */
  private static void numbersAfterRemovePremium() {
    for (int first = 0; first < 6; first++) {
      about("Promise 11, greater numbers get less by 1, number " + first + " is removed first");
      Timesheets x = withOne(1);
      List<Integer> days = new ArrayList<>();
      for (int day = 0; day < 6; day++) {
        x.enter(0, day * 1440, day * 1440 + 60);
        x.addPremium(1 << day, 0, 60, 1 << day);
        days.add(1 << day);
      }
      int number = first;
      while (!days.isEmpty()) {
        int before = x.premiumPay(0);
        x.removePremium(number);
        due("rate of number " + number, before - x.premiumPay(0), days.remove(number));
        number = (number + 3) % Math.max(days.size(), 1);
      }
    }
  }

  // Promise 12: closeWeek.

  /** "Throws IndexOutOfBoundsException if there is no such employee" */
  private static void employeeOfCloseWeek() {
    about("Promise 12, closeWeek");
    employees((x, e) -> x.closeWeek(e));
  }

  /** "Throws IllegalStateException if the present week has no punch and no entry" */
  private static void emptyWeek() {
    about("Promise 12, a week without punch and entry");
    refused("a new week", STATE, ONE, x -> x.closeWeek(0));
    Steps breakAlone = x -> {
      x.hire(1000);
      x.enterBreak(0, 0, WEEK);
    };
    refused("a break alone", STATE, breakAlone, x -> x.closeWeek(0));
    Steps removed = x -> {
      x.hire(1000);
      x.punch(0, 0, true);
      x.enter(0, 0, 60);
      x.removePunch(0, 0);
      x.removeEntry(0, 0);
    };
    refused("what was entered is removed", STATE, removed, x -> x.closeWeek(0));
    Steps closed = x -> {
      x.hire(1000);
      x.enter(0, 0, 60);
      x.closeWeek(0);
    };
    refused("the week after a closed one", STATE, closed, x -> x.closeWeek(0));
    Steps other = x -> {
      x.hire(1000);
      x.hire(1000);
      x.enter(1, 0, 60);
    };
    refused("another employee's entry", STATE, other, x -> x.closeWeek(0));
  }

  /** "no punch and no entry": one of both, without a worked minute too, is a week. */
  private static void leastWeek() {
    about("Promise 12, the least week that can be closed");
    Timesheets x = withOne(1000);
    x.punch(0, 0, false);
    due("a punch without minutes", x.closeWeek(0), 0);
    x.punch(0, WEEK, true);
    due("another", x.closeWeek(0), 0);
    x.enter(0, 0, 1);
    x.enterBreak(0, 0, 1);
    due("an entry in a break", x.closeWeek(0), 0);
    x.enter(0, WEEK - 1, WEEK);
    due("an entry of one minute", x.closeWeek(0), 0);
    due("closedWeeks", x.closedWeeks(0), 4);
    due("earned", x.earned(0), 0);
  }

  /** "pay() is added to what the employee has earned"; "Returns the pay of the closed week." */
  private static void payOfTheClosedWeek() {
    about("Promise 12, the pay of the closed week");
    Timesheets x = after(SIX);
    for (int e = 0; e < 6; e++) {
      int pay = x.pay(e);
      long before = x.earned(e);
      due("pay is more than nothing", pay > 0 ? 1 : 0, 1);
      due("closeWeek", x.closeWeek(e), pay);
      due("earned", x.earned(e), before + pay);
      due("closedWeeks", x.closedWeeks(e), 1 + e % 2);
    }
  }

  /** "and the next week begins without punches, entries and breaks." */
  private static void nextWeek() {
    about("Promise 12, the next week is empty");
    Timesheets x = after(FULL);
    x.closeWeek(0);
    due("shifts", x.shifts(0), 0);
    due("repairedShifts", x.repairedShifts(0), 0);
    due("stretches", x.stretches(0), 0);
    due("coverage", x.coverage(0, 10), 0);
    due("pay", x.pay(0), 0);
    raises("removePunch", ELEMENT, () -> x.removePunch(0, 10) ? 1 : 0);
    raises("removeEntry", INDEX, () -> x.removeEntry(0, 0));
    raises("removeBreak", INDEX, () -> x.removeBreak(0, 0));
    due("the first entry", x.enter(0, 0, WEEK), 0);
    due("no break is left", x.longestStretch(0), WEEK);
    due("the first break", x.enterBreak(0, 0, 1), 0);
    due("the first punch", x.punch(0, 10, true), 1);
    due("premiums stay", x.removePremium(5), 5);
  }

  /** "Closes the present week of an employee": no other employee's. */
  private static void otherWeeksStayOpen() {
    about("Promise 12, other employees' weeks stay open");
    Timesheets x = after(SIX);
    int pay = x.pay(4);
    x.closeWeek(3);
    x.closeWeek(5);
    due("pay of 4", x.pay(4), pay);
    due("closedWeeks of 4", x.closedWeeks(4), 0);
    due("shifts of 4", x.shifts(4), 1);
    due("breaks of 4", x.removeBreak(4, 0), 0);
    due("entries of 4", x.removeEntry(4, 0), 0);
  }

  /** "If several exceptions apply": IndexOutOfBoundsException stands before IllegalStateException. */
  private static void closeWeekWithTwoFaults() {
    about("Promise 12, no week of no employee");
    refused("employee 0 of none", INDEX, NOBODY, x -> x.closeWeek(0));
    refused("employee 1 of one, whose week is empty", INDEX, ONE, x -> x.closeWeek(1));
    refused("employee -1", INDEX, ONE, x -> x.closeWeek(-1));
  }

  public static void main(String[] args) {
    newObjectWithoutEmployees();
    newObjectWithoutPremiums();
    hireWithAnEmptyWeek();
    wageOfHire();
    sixEmployees();
    hireWithTwoFaults();
    employeeOfSetWage();
    wageOfSetWage();
    setWageWithTwoFaults();
    wageBefore();
    wageOfTheWeek();
    employeeOfPunch();
    timeOfPunch();
    numberOfPunches();
    punchAtTheSameTime();
    fortyPunches();
    punchWithTwoFaults();
    employeeOfRemovePunch();
    anyTimeOfRemovePunch();
    noPunchAtThisTime();
    removePunchWithTwoFaults();
    wasAPunchIn();
    entries();
    breaks();
    limitsApart();
    daysOfAddPremium();
    fromOfAddPremium();
    toOfAddPremium();
    rateOfAddPremium();
    sixPremiums();
    addPremiumWithTwoFaults();
    numberOfRemovePremium();
    leftAfterRemovePremium();
    numbersAfterRemovePremium();
    employeeOfCloseWeek();
    emptyWeek();
    leastWeek();
    payOfTheClosedWeek();
    nextWeek();
    otherWeeksStayOpen();
    closeWeekWithTwoFaults();
    finish();
  }
}
