import java.util.ArrayList;
import java.util.List;
import java.util.NoSuchElementException;
import java.util.TreeMap;

/**
 * Runs of mixed calls, answered by Timesheets and by a model that follows the document's Terms minute by minute.
 * The arguments come from a fixed sequence of numbers, so that every run of this test is the same.
 */
public final class ModelTest {
  private static final int RUNS = 240;
  private static final int CALLS = 512;
  private static final int METHODS = 28;
  private static final int MOST_SHOWN = 20;

  /** The document's words, in their plainest form. */
  private static final class Model {
    private static final class Person {
      int wage;
      int closed;
      long earned;
      TreeMap<Integer, Boolean> punches = new TreeMap<>();
      List<int[]> entries = new ArrayList<>();
      List<int[]> breaks = new ArrayList<>();
    }

    private final List<Person> people = new ArrayList<>();
    private final List<int[]> premiums = new ArrayList<>();

    private Person person(int employee) {
      if (employee < 0 || employee >= people.size()) {
        throw new IndexOutOfBoundsException();
      }
      return people.get(employee);
    }

    private static void argument(boolean right) {
      if (!right) {
        throw new IllegalArgumentException();
      }
    }

    private static void state(boolean right) {
      if (!right) {
        throw new IllegalStateException();
      }
    }

    private static void index(boolean right) {
      if (!right) {
        throw new IndexOutOfBoundsException();
      }
    }

    long hire(int wage) {
      argument(wage >= 1 && wage <= 100000);
      state(people.size() < 6);
      Person person = new Person();
      person.wage = wage;
      people.add(person);
      return people.size() - 1;
    }

    long setWage(int employee, int wage) {
      Person person = person(employee);
      argument(wage >= 1 && wage <= 100000);
      int before = person.wage;
      person.wage = wage;
      return before;
    }

    long punch(int employee, int time, boolean in) {
      Person person = person(employee);
      argument(time >= 0 && time <= 10080);
      state(!person.punches.containsKey(time) && person.punches.size() < 40);
      person.punches.put(time, in);
      return person.punches.size();
    }

    long removePunch(int employee, int time) {
      Person person = person(employee);
      if (!person.punches.containsKey(time)) {
        throw new NoSuchElementException();
      }
      return person.punches.remove(time) ? 1 : 0;
    }

    private static long addSpan(List<int[]> spans, int from, int to) {
      argument(from >= 0 && from <= 10079 && to >= from + 1 && to <= 10080);
      state(spans.size() < 20);
      spans.add(new int[] {from, to});
      return spans.size() - 1;
    }

    private static long removeFrom(List<int[]> list, int number) {
      index(number >= 0 && number < list.size());
      list.remove(number);
      return list.size();
    }

    long enter(int employee, int from, int to) {
      return addSpan(person(employee).entries, from, to);
    }

    long removeEntry(int employee, int number) {
      return removeFrom(person(employee).entries, number);
    }

    long enterBreak(int employee, int from, int to) {
      return addSpan(person(employee).breaks, from, to);
    }

    long removeBreak(int employee, int number) {
      return removeFrom(person(employee).breaks, number);
    }

    long addPremium(int days, int from, int to, int rate) {
      argument(days >= 1 && days <= 127);
      argument(from >= 0 && from <= 1439);
      argument(to >= 0 && to <= 1439);
      argument(rate >= 1 && rate <= 10000);
      state(premiums.size() < 6);
      premiums.add(new int[] {days, from, to, rate});
      return premiums.size() - 1;
    }

    long removePremium(int number) {
      return removeFrom(premiums, number);
    }

    long closeWeek(int employee) {
      Person person = person(employee);
      state(!person.punches.isEmpty() || !person.entries.isEmpty());
      long paid = pay(employee);
      person.earned += paid;
      person.closed++;
      person.punches.clear();
      person.entries.clear();
      person.breaks.clear();
      return paid;
    }

    /** Begin, end and 1 for a repaired shift. */
    private static List<int[]> shiftsOf(Person person) {
      List<int[]> shifts = new ArrayList<>();
      for (int time : person.punches.keySet()) {
        Integer next = person.punches.higherKey(time);
        Integer previous = person.punches.lowerKey(time);
        if (person.punches.get(time)) {
          if (next != null && !person.punches.get(next)) {
            shifts.add(new int[] {time, next, 0});
          } else {
            shifts.add(new int[] {time, Math.min(time + 480, next == null ? 10080 : next), 1});
          }
        } else if (previous == null || !person.punches.get(previous)) {
          shifts.add(new int[] {Math.max(time - 480, previous == null ? 0 : previous), time, 1});
        }
      }
      return shifts;
    }

    private static int[] coverOf(Person person) {
      int[] cover = new int[10080];
      List<int[]> spans = new ArrayList<>(shiftsOf(person));
      spans.addAll(person.entries);
      for (int[] span : spans) {
        for (int m = span[0]; m < span[1]; m++) {
          cover[m]++;
        }
      }
      return cover;
    }

    private static boolean[] workedOf(Person person) {
      int[] cover = coverOf(person);
      boolean[] worked = new boolean[10080];
      for (int m = 0; m < 10080; m++) {
        worked[m] = cover[m] >= 1;
      }
      for (int[] span : person.breaks) {
        for (int m = span[0]; m < span[1]; m++) {
          worked[m] = false;
        }
      }
      return worked;
    }

    private static int[] categoriesOf(Person person) {
      boolean[] worked = workedOf(person);
      boolean[] paid = new boolean[10080];
      int[] perDay = new int[7];
      int nth = 0;
      for (int m = 0; m < 10080; m++) {
        nth = worked[m] ? nth + 1 : 0;
        paid[m] = worked[m] && !(nth >= 361 && nth <= 390);
        perDay[m / 1440] += paid[m] ? 1 : 0;
      }
      boolean full = true;
      for (int day = 0; day <= 5; day++) {
        full &= perDay[day] >= 1;
      }
      int[] categories = new int[10080];
      int w = 0;
      int d = 0;
      for (int m = 0; m < 10080; m++) {
        d = m % 1440 == 0 ? 0 : d;
        boolean sixth = m / 1440 == 6 && full;
        if (!paid[m]) {
          categories[m] = -1;
          continue;
        }
        if (d >= 720 || sixth && d >= 480) {
          categories[m] = 2;
        } else if (d >= 480 || w >= 2400 || sixth) {
          categories[m] = 1;
        } else {
          categories[m] = 0;
        }
        d++;
        w++;
      }
      return categories;
    }

    private static int[] minutesByDay(Person person, int category) {
      int[] categories = categoriesOf(person);
      int[] perDay = new int[7];
      for (int m = 0; m < 10080; m++) {
        perDay[m / 1440] += categories[m] == category ? 1 : 0;
      }
      return perDay;
    }

    private static int[] quartersByDay(Person person, int category) {
      int[] minutes = minutesByDay(person, category);
      int[] quarters = new int[7];
      int sum = 0;
      int left = 0;
      for (int day = 0; day < 7; day++) {
        quarters[day] = minutes[day] / 15;
        sum += minutes[day];
        left -= quarters[day];
      }
      left += sum % 15 >= 8 ? sum / 15 + 1 : sum / 15;
      for (int r = 14; r >= 0; r--) {
        for (int day = 0; day < 7; day++) {
          if (minutes[day] % 15 == r && left > 0) {
            quarters[day]++;
            left--;
          }
        }
      }
      if (left != 0) {
        throw new AssertionError("quarters are left over");
      }
      return quarters;
    }

    long premiumPay(int employee) {
      int[] categories = categoriesOf(person(employee));
      int[] greatest = new int[10080];
      for (int[] premium : premiums) {
        boolean[] contained = minutesOfTheDay(premium[1], premium[2]);
        for (int m = 0; m < 10080; m++) {
          if ((premium[0] & (1 << m / 1440)) != 0 && contained[m % 1440]) {
            greatest[m] = Math.max(greatest[m], premium[3]);
          }
        }
      }
      long sum = 0;
      for (int m = 0; m < 10080; m++) {
        sum += categories[m] == -1 ? 0 : greatest[m];
      }
      return sum % 60 >= 30 ? sum / 60 + 1 : sum / 60;
    }

    private static boolean[] minutesOfTheDay(int from, int to) {
      boolean[] contained = new boolean[1440];
      int count = from == to ? 1440 : (to - from + 1440) % 1440;
      for (int i = 0; i < count; i++) {
        contained[(from + i) % 1440] = true;
      }
      return contained;
    }

    long pay(int employee) {
      Person person = person(employee);
      long eighths = 0;
      for (int category = 0; category <= 2; category++) {
        for (int quarters : quartersByDay(person, category)) {
          eighths += (long) person.wage * quarters * (category + 2);
        }
      }
      return (eighths % 8 >= 4 ? eighths / 8 + 1 : eighths / 8) + premiumPay(employee);
    }

    long shift(int employee, int number, int column) {
      List<int[]> shifts = shiftsOf(person(employee));
      index(number >= 0 && number < shifts.size());
      return shifts.get(number)[column];
    }

    long repairedShifts(int employee) {
      long count = 0;
      for (int[] shift : shiftsOf(person(employee))) {
        count += shift[2];
      }
      return count;
    }

    long coverage(int employee, int minute) {
      Person person = person(employee);
      argument(minute >= 0 && minute <= 10079);
      return coverOf(person)[minute];
    }

    long overlap(int employee) {
      long count = 0;
      for (int cover : coverOf(person(employee))) {
        count += cover >= 2 ? 1 : 0;
      }
      return count;
    }

    long workedOn(int employee, int day) {
      Person person = person(employee);
      argument(day >= 0 && day <= 6);
      boolean[] worked = workedOf(person);
      long count = 0;
      for (int m = day * 1440; m < (day + 1) * 1440; m++) {
        count += worked[m] ? 1 : 0;
      }
      return count;
    }

    long stretches(int employee) {
      boolean[] worked = workedOf(person(employee));
      long count = 0;
      for (int m = 0; m < 10080; m++) {
        count += worked[m] && (m == 0 || !worked[m - 1]) ? 1 : 0;
      }
      return count;
    }

    long longestStretch(int employee) {
      long most = 0;
      long length = 0;
      for (boolean worked : workedOf(person(employee))) {
        length = worked ? length + 1 : 0;
        most = Math.max(most, length);
      }
      return most;
    }

    long category(int employee, int minute) {
      Person person = person(employee);
      argument(minute >= 0 && minute <= 10079);
      return categoriesOf(person)[minute];
    }

    long minutes(int employee, int day, int category) {
      Person person = person(employee);
      argument(day >= 0 && day <= 6 && category >= 0 && category <= 2);
      return minutesByDay(person, category)[day];
    }

    long quarters(int employee, int day, int category) {
      Person person = person(employee);
      argument(day >= 0 && day <= 6 && category >= 0 && category <= 2);
      return quartersByDay(person, category)[day];
    }

    long call(int method, int a, int b, int c, int d) {
      switch (method) {
        case 0: return hire(a);
        case 1: return setWage(a, b);
        case 2: return punch(a, b, c % 2 == 0);
        case 3: return removePunch(a, b);
        case 4: return enter(a, b, c);
        case 5: return removeEntry(a, b);
        case 6: return enterBreak(a, b, c);
        case 7: return removeBreak(a, b);
        case 8: return addPremium(a, b, c, d);
        case 9: return removePremium(a);
        case 10: return closeWeek(a);
        case 11: return people.size();
        case 12: return person(a).closed;
        case 13: return person(a).earned;
        case 14: return shiftsOf(person(a)).size();
        case 15: return shift(a, b, 0);
        case 16: return shift(a, b, 1);
        case 17: return repairedShifts(a);
        case 18: return coverage(a, b);
        case 19: return overlap(a);
        case 20: return workedOn(a, b);
        case 21: return stretches(a);
        case 22: return longestStretch(a);
        case 23: return category(a, b);
        case 24: return minutes(a, b, c);
        case 25: return quarters(a, b, c);
        case 26: return premiumPay(a);
        default: return pay(a);
      }
    }
  }

  private static final String[] NAMES = {
    "hire", "setWage", "punch", "removePunch", "enter", "removeEntry", "enterBreak", "removeBreak", "addPremium",
    "removePremium", "closeWeek", "employees", "closedWeeks", "earned", "shifts", "shiftBegin", "shiftEnd",
    "repairedShifts", "coverage", "overlap", "workedOn", "stretches", "longestStretch", "category", "minutes",
    "quarters", "premiumPay", "pay",
  };

  private static long call(Timesheets x, int method, int a, int b, int c, int d) {
    switch (method) {
      case 0: return x.hire(a);
      case 1: return x.setWage(a, b);
      case 2: return x.punch(a, b, c % 2 == 0);
      case 3: return x.removePunch(a, b) ? 1 : 0;
      case 4: return x.enter(a, b, c);
      case 5: return x.removeEntry(a, b);
      case 6: return x.enterBreak(a, b, c);
      case 7: return x.removeBreak(a, b);
      case 8: return x.addPremium(a, b, c, d);
      case 9: return x.removePremium(a);
      case 10: return x.closeWeek(a);
      case 11: return x.employees();
      case 12: return x.closedWeeks(a);
      case 13: return x.earned(a);
      case 14: return x.shifts(a);
      case 15: return x.shiftBegin(a, b);
      case 16: return x.shiftEnd(a, b);
      case 17: return x.repairedShifts(a);
      case 18: return x.coverage(a, b);
      case 19: return x.overlap(a);
      case 20: return x.workedOn(a, b);
      case 21: return x.stretches(a);
      case 22: return x.longestStretch(a);
      case 23: return x.category(a, b);
      case 24: return x.minutes(a, b, c);
      case 25: return x.quarters(a, b, c);
      case 26: return x.premiumPay(a);
      default: return x.pay(a);
    }
  }

  private static long seed;

  private static int below(int bound) {
    seed = seed * 6364136223846793005L + 1442695040888963407L;
    return (int) ((seed >>> 33) % bound);
  }

  private static int oneOf(int... values) {
    return values[below(values.length)];
  }

  /** One of many within the range, now and then an edge of it or a number outside. */
  private static int around(int least, int greatest) {
    switch (below(60)) {
      case 0: return least;
      case 1: return greatest;
      case 2: return least - 1;
      case 3: return greatest + 1;
      case 4: return oneOf(Integer.MIN_VALUE, Integer.MAX_VALUE);
      default: return least + below(greatest - least + 1);
    }
  }

  /** The kinds of runs differ in how many people there are, how long spans are and how times fall together. */
  private static int people;
  private static int longest;
  private static int step;
  private static int firstMinute;
  private static int lastMinute;

  private static void chooseKind(int run) {
    people = oneOf(1, 1, 1, 2, 6);
    longest = oneOf(20, 200, 600, 1000, 3000);
    step = oneOf(1, 1, 5, 30, 120);
    boolean narrow = run % 6 == 5;
    firstMinute = narrow ? 1440 * below(7) : 0;
    lastMinute = narrow ? firstMinute + 1440 : 10080;
  }

  private static int anyTime() {
    return below(40) == 0 ? around(0, 10080) : (firstMinute + below(lastMinute - firstMinute + 1)) / step * step;
  }

  private static int[] arguments(int method) {
    int employee = below(30) == 0 ? around(0, 5) : below(people);
    int from = anyTime();
    int to = below(20) == 0 ? around(Math.max(0, Math.min(from, 10080)), 10080) : Math.min(10080, from + (1 + below(longest)) / step * step);
    switch (method) {
      case 0: return new int[] {around(1, 100000), 0, 0, 0};
      case 1: return new int[] {employee, around(1, 100000), 0, 0};
      case 2: case 3: return new int[] {employee, anyTime(), below(2), 0};
      case 4: return new int[] {employee, from, to, 0};
      case 6: return new int[] {employee, from, below(3) > 0 ? Math.min(to, from + 1 + below(90)) : to, 0};
      case 5: case 7: return new int[] {employee, around(0, 8), 0, 0};
      case 8: return new int[] {around(1, 127), around(0, 1439), around(0, 1439), around(1, 10000)};
      case 9: return new int[] {around(0, 5), 0, 0, 0};
      case 15: case 16: return new int[] {employee, around(0, 12), 0, 0};
      case 18: case 23: return new int[] {employee, around(0, 10079), 0, 0};
      case 20: case 24: case 25: return new int[] {employee, around(0, 6), around(0, 2), 0};
      default: return new int[] {employee, 0, 0, 0};
    }
  }

  private static int chooseMethod(int call) {
    if (call < people) {
      return 0;
    }
    switch (below(20)) {
      case 0: case 1: case 2: return 2;
      case 3: case 4: return 4;
      case 5: return 6;
      case 6: return below(3) == 0 ? oneOf(0, 1, 5, 7, 9, 10) : oneOf(2, 4, 6, 8);
      case 7: case 8: return 25;
      case 9: case 10: return 23;
      case 11: return below(3) == 0 ? 3 : 27;
      default: return 11 + below(METHODS - 11);
    }
  }

  private static String textOf(RuntimeException e) {
    return "throws " + e.getClass().getName();
  }

  private static String answerOf(Timesheets x, int method, int[] a) {
    try {
      return String.valueOf(call(x, method, a[0], a[1], a[2], a[3]));
    } catch (RuntimeException e) {
      return textOf(e);
    }
  }

  private static String answerOf(Model model, int method, int[] a) {
    try {
      return String.valueOf(model.call(method, a[0], a[1], a[2], a[3]));
    } catch (RuntimeException e) {
      return textOf(e);
    }
  }

  public static void main(String[] args) {
    int wrong = 0;
    int[] answered = new int[METHODS];
    int[] thrown = new int[METHODS];
    int[] categories = new int[3];
    for (int run = 0; run < RUNS; run++) {
      seed = run;
      chooseKind(run);
      Timesheets x = new Timesheets();
      Model model = new Model();
      for (int i = 0; i < CALLS; i++) {
        int method = chooseMethod(i);
        int[] a = arguments(method);
        String got = answerOf(x, method, a);
        String want = answerOf(model, method, a);
        if (!got.equals(want) && wrong++ < MOST_SHOWN) {
          System.out.println("run " + run + ", call " + i + ": " + NAMES[method] + "(" + a[0] + ", " + a[1] + ", "
              + a[2] + ", " + a[3] + ") answered " + got + ", due is " + want);
        }
        (want.startsWith("throws") ? thrown : answered)[method]++;
        if (method == 25 && !want.startsWith("throws") && !want.equals("0")) {
          categories[a[2]]++;
        }
      }
    }
    for (int method = 0; method < METHODS; method++) {
      boolean mayThrow = method != 11;
      if (answered[method] < 50 || mayThrow && thrown[method] < 10) {
        wrong++;
        System.out.println(NAMES[method] + " was answered " + answered[method] + " and threw " + thrown[method]
            + " times: too seldom for a test");
      }
    }
    System.out.println("days with quarters of the three categories: " + categories[0] + ", " + categories[1] + ", "
        + categories[2]);
    System.out.println(wrong == 0 ? "all answers are as the model's" : wrong + " answers are not as due");
    if (wrong != 0) {
      System.exit(1);
    }
  }
}
