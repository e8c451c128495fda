import java.util.NoSuchElementException;

/** A timesheet engine. It keeps the present week of each employee and answers every question from it. */
public final class Timesheets {
  public static final int NONE = -1;
  public static final int REGULAR = 0;
  public static final int OVERTIME = 1;
  public static final int DOUBLE = 2;

  private static final int MAX_EMPLOYEES = 6;
  private static final int MAX_PUNCHES = 40;
  private static final int MAX_ENTRIES = 20;
  private static final int MAX_BREAKS = 20;
  private static final int MAX_PREMIUMS = 6;
  private static final int MAX_WAGE = 100000;
  private static final int MAX_RATE = 10000;
  private static final int ALL_DAYS = 127;

  private static final int DAYS = 7;
  private static final int LAST_DAY = 6;
  private static final int DAY = 1440;
  private static final int WEEK = 10080;
  private static final int QUARTER = 15;
  private static final int HOUR = 60;
  private static final int REPAIRED_LENGTH = 480;

  // A stretch begins where a shift or an entry begins or where a break ends, so there are no more of them than spans.
  private static final int MAX_SPANS = MAX_PUNCHES + MAX_ENTRIES + MAX_BREAKS;
  // The automatic break makes at most two paid spans of a stretch.
  private static final int MAX_PAID = 2 * MAX_SPANS;
  // Each day adds at most three cuts (midnight, 480, 720), the week one more (2400).
  private static final int MAX_PARTS = MAX_PAID + 4 * DAYS;

  private static final int AUTOMATIC_BREAK_BEGIN = 360;
  private static final int AUTOMATIC_BREAK_END = 390;
  private static final int LONG_DAY = 480;
  private static final int VERY_LONG_DAY = 720;
  private static final int LONG_WEEK = 2400;

  // Columns of the tables of spans: shifts, entries, breaks, stretches, paid spans and their parts.
  private static final int BEGIN = 0;
  private static final int END = 1;
  private static final int CATEGORY = 2;

  // Columns of the tables of punches and of events.
  private static final int TIME = 0;
  private static final int IN = 1;
  private static final int COVERS = 1;
  private static final int BREAKS = 2;

  // Columns of the table of premiums.
  private static final int DAY_SET = 0;
  private static final int FROM = 1;
  private static final int TO = 2;
  private static final int RATE = 3;

  private final Employee[] staff;
  private int hired;
  private final Premiums premiums;
  // What these three hold is worked out anew in each call; they are made once to make no objects in a question.
  private final Payroll payroll;
  private final Timeline timeline;
  private final Shifts shiftList;

  public Timesheets() {
    staff = new Employee[MAX_EMPLOYEES];
    hired = 0;
    premiums = new Premiums();
    payroll = new Payroll();
    timeline = payroll.timeline;
    shiftList = timeline.shiftList;
  }

  public int hire(int wage) throws IllegalArgumentException, IllegalStateException {
    requireWithin(wage, 1, MAX_WAGE);
    int number = hired;
    if (number < 0 || number >= staff.length) {
      throw new IllegalStateException("there are 6 employees already");
    }
    staff[number] = new Employee(wage);
    hired = number + 1;
    return number;
  }

  public int setWage(int employee, int wage) throws IndexOutOfBoundsException, IllegalArgumentException {
    Employee found = find(employee);
    requireWithin(wage, 1, MAX_WAGE);
    int before = found.wage;
    found.wage = wage;
    return before;
  }

  public int punch(int employee, int time, boolean in)
      throws IndexOutOfBoundsException, IllegalArgumentException, IllegalStateException {
    Table punches = find(employee).punches;
    requireWithin(time, 0, WEEK);
    requireRoom(punches, MAX_PUNCHES);
    int at = placeOfPunch(punches, time);
    if (isPunchAt(punches, at, time)) {
      throw new IllegalStateException("there is a punch at this time already");
    }
    punches.insert(at);
    punches.set(at, TIME, time);
    punches.set(at, IN, in ? 1 : 0);
    return punches.size();
  }

  public boolean removePunch(int employee, int time)
      throws IndexOutOfBoundsException, NoSuchElementException {
    Table punches = find(employee).punches;
    int at = placeOfPunch(punches, time);
    if (!isPunchAt(punches, at, time)) {
      throw new NoSuchElementException("there is no punch at this time");
    }
    boolean in = punches.get(at, IN) == 1;
    punches.remove(at);
    return in;
  }

  public int enter(int employee, int from, int to)
      throws IndexOutOfBoundsException, IllegalArgumentException, IllegalStateException {
    return addByHand(find(employee).entries, from, to, MAX_ENTRIES);
  }

  public int removeEntry(int employee, int number) throws IndexOutOfBoundsException {
    return removeNumbered(find(employee).entries, number);
  }

  public int enterBreak(int employee, int from, int to)
      throws IndexOutOfBoundsException, IllegalArgumentException, IllegalStateException {
    return addByHand(find(employee).breaks, from, to, MAX_BREAKS);
  }

  public int removeBreak(int employee, int number) throws IndexOutOfBoundsException {
    return removeNumbered(find(employee).breaks, number);
  }

  public int addPremium(int days, int from, int to, int rate)
      throws IllegalArgumentException, IllegalStateException {
    requireWithin(days, 1, ALL_DAYS);
    requireWithin(from, 0, DAY - 1);
    requireWithin(to, 0, DAY - 1);
    requireWithin(rate, 1, MAX_RATE);
    requireRoom(premiums.rows, MAX_PREMIUMS);
    return premiums.add(days, from, to, rate);
  }

  public int removePremium(int number) throws IndexOutOfBoundsException {
    return removeNumbered(premiums.rows, number);
  }

  public int closeWeek(int employee) throws IndexOutOfBoundsException, IllegalStateException {
    Employee found = find(employee);
    if (found.punches.size() == 0 && found.entries.size() == 0) {
      throw new IllegalStateException("the week has no punch and no entry");
    }
    payroll.read(found);
    int paid = payroll.basicPay(found.wage) + premiums.payFor(payroll.parts);
    found.beginNextWeek(paid);
    return paid;
  }

  public int employees() {
    return hired;
  }

  public int closedWeeks(int employee) throws IndexOutOfBoundsException {
    return find(employee).weeksClosed;
  }

  public long earned(int employee) throws IndexOutOfBoundsException {
    return find(employee).earnings;
  }

  public int shifts(int employee) throws IndexOutOfBoundsException {
    shiftList.read(find(employee).punches);
    return shiftList.spans.size();
  }

  public int shiftBegin(int employee, int shift) throws IndexOutOfBoundsException {
    shiftList.read(find(employee).punches);
    requireNumber(shiftList.spans, shift);
    return shiftList.spans.get(shift, BEGIN);
  }

  public int shiftEnd(int employee, int shift) throws IndexOutOfBoundsException {
    shiftList.read(find(employee).punches);
    requireNumber(shiftList.spans, shift);
    return shiftList.spans.get(shift, END);
  }

  public int repairedShifts(int employee) throws IndexOutOfBoundsException {
    shiftList.read(find(employee).punches);
    return shiftList.repaired;
  }

  public int coverage(int employee, int minute) throws IndexOutOfBoundsException, IllegalArgumentException {
    Employee found = find(employee);
    requireWithin(minute, 0, WEEK - 1);
    shiftList.read(found.punches);
    return countContaining(shiftList.spans, minute) + countContaining(found.entries, minute);
  }

  public int overlap(int employee) throws IndexOutOfBoundsException {
    timeline.read(find(employee));
    return timeline.coveredTwice;
  }

  public int workedOn(int employee, int day) throws IndexOutOfBoundsException, IllegalArgumentException {
    Employee found = find(employee);
    requireWithin(day, 0, LAST_DAY);
    timeline.read(found);
    return minutesOnDay(timeline.stretchList, day);
  }

  public int stretches(int employee) throws IndexOutOfBoundsException {
    timeline.read(find(employee));
    return timeline.stretchList.size();
  }

  public int longestStretch(int employee) throws IndexOutOfBoundsException {
    timeline.read(find(employee));
    return longest(timeline.stretchList);
  }

  public int category(int employee, int minute) throws IndexOutOfBoundsException, IllegalArgumentException {
    Employee found = find(employee);
    requireWithin(minute, 0, WEEK - 1);
    payroll.read(found);
    return payroll.categoryAt(minute);
  }

  public int minutes(int employee, int day, int category)
      throws IndexOutOfBoundsException, IllegalArgumentException {
    Employee found = find(employee);
    requireWithin(day, 0, LAST_DAY);
    requireWithin(category, REGULAR, DOUBLE);
    payroll.read(found);
    return payroll.minutesOf(day, category);
  }

  public int quarters(int employee, int day, int category)
      throws IndexOutOfBoundsException, IllegalArgumentException {
    Employee found = find(employee);
    requireWithin(day, 0, LAST_DAY);
    requireWithin(category, REGULAR, DOUBLE);
    payroll.read(found);
    return payroll.quartersOf(day, category);
  }

  public int premiumPay(int employee) throws IndexOutOfBoundsException {
    payroll.read(find(employee));
    return premiums.payFor(payroll.parts);
  }

  public int pay(int employee) throws IndexOutOfBoundsException {
    Employee found = find(employee);
    payroll.read(found);
    return payroll.basicPay(found.wage) + premiums.payFor(payroll.parts);
  }

  private Employee find(int employee) {
    if (employee < 0 || employee >= hired || employee >= staff.length) {
      throw new IndexOutOfBoundsException("there is no such employee");
    }
    Employee found = staff[employee];
    if (found == null) {
      throw new IndexOutOfBoundsException("there is no such employee");
    }
    return found;
  }

  private static void requireWithin(int value, int least, int greatest) {
    if (value < least || value > greatest) {
      throw new IllegalArgumentException("a value is out of range");
    }
  }

  private static void requireRoom(Table table, int most) {
    if (table.size() >= most) {
      throw new IllegalStateException("there are as many as there may be already");
    }
  }

  private static void requireNumber(Table table, int number) {
    if (number < 0 || number >= table.size()) {
      throw new IndexOutOfBoundsException("there is nothing with this number");
    }
  }

  private static int addByHand(Table spans, int from, int to, int most) {
    requireWithin(from, 0, WEEK - 1);
    requireWithin(to, from + 1, WEEK);
    requireRoom(spans, most);
    spans.addSpan(from, to);
    return spans.size() - 1;
  }

  private static int removeNumbered(Table table, int number) {
    requireNumber(table, number);
    table.remove(number);
    return table.size();
  }

  /** The place, in order of time, of the first punch that is not before the time. */
  private static int placeOfPunch(Table punches, int time) {
    int at = 0;
    for (int i = 0; i < punches.size(); i++) {
      if (punches.get(i, TIME) < time) {
        at = i + 1;
      }
    }
    return at;
  }

  private static boolean isPunchAt(Table punches, int at, int time) {
    return at < punches.size() && punches.get(at, TIME) == time;
  }

  private static int countContaining(Table spans, int minute) {
    int count = 0;
    for (int i = 0; i < spans.size(); i++) {
      if (spans.get(i, BEGIN) <= minute && minute < spans.get(i, END)) {
        count++;
      }
    }
    return count;
  }

  private static int minutesOnDay(Table spans, int day) {
    int sum = 0;
    for (int i = 0; i < spans.size(); i++) {
      int begin = Math.max(spans.get(i, BEGIN), day * DAY);
      int end = Math.min(spans.get(i, END), (day + 1) * DAY);
      sum += Math.max(end - begin, 0);
    }
    return sum;
  }

  private static int longest(Table spans) {
    int most = 0;
    for (int i = 0; i < spans.size(); i++) {
      most = Math.max(most, spans.get(i, END) - spans.get(i, BEGIN));
    }
    return most;
  }

  /** Rows of numbers in a room of fixed size. Every index into it is tested here, so that no caller needs to. */
  private static final class Table {
    private final int width;
    private final int[] cells;
    private int rows;

    Table(int most, int width) {
      this.width = width;
      this.cells = new int[most > 0 && width > 0 ? most * width : 0];
      this.rows = 0;
    }

    int size() {
      return rows;
    }

    /** A number of a row; 0 if there is no such row. */
    int get(int row, int column) {
      if (row < 0 || row >= rows || column < 0 || column >= width) {
        return 0;
      }
      int place = row * width + column;
      return place >= 0 && place < cells.length ? cells[place] : 0;
    }

    void set(int row, int column, int value) {
      if (row < 0 || row >= rows || column < 0 || column >= width) {
        return;
      }
      int place = row * width + column;
      if (place >= 0 && place < cells.length) {
        cells[place] = value;
      }
    }

    /** Opens a row, whose numbers are to be set; the rows from there on move up by one. */
    void insert(int at) {
      if (at < 0 || at > rows || (rows + 1) * width > cells.length) {
        return;
      }
      for (int i = (rows + 1) * width - 1; i >= (at + 1) * width; i--) {
        cells[i] = cells[i - width];
      }
      rows++;
    }

    void remove(int at) {
      if (at < 0 || at >= rows || rows * width > cells.length) {
        return;
      }
      for (int i = (at + 1) * width; i < rows * width; i++) {
        cells[i - width] = cells[i];
      }
      rows--;
    }

    void addSpan(int begin, int end) {
      int at = rows;
      insert(at);
      set(at, BEGIN, begin);
      set(at, END, end);
    }

    void clear() {
      rows = 0;
    }
  }

  /** What is kept of an employee. */
  private static final class Employee {
    private int wage;
    private int weeksClosed;
    private long earnings;
    private final Table punches;
    private final Table entries;
    private final Table breaks;

    Employee(int wage) {
      this.wage = wage;
      this.weeksClosed = 0;
      this.earnings = 0;
      this.punches = new Table(MAX_PUNCHES, 2);
      this.entries = new Table(MAX_ENTRIES, 2);
      this.breaks = new Table(MAX_BREAKS, 2);
    }

    void beginNextWeek(int paid) {
      earnings += paid;
      weeksClosed++;
      punches.clear();
      entries.clear();
      breaks.clear();
    }
  }

  /** The shifts that punches make. */
  private static final class Shifts {
    private final Table spans;
    private int repaired;

    Shifts() {
      spans = new Table(MAX_PUNCHES, 2);
      repaired = 0;
    }

    void read(Table punches) {
      spans.clear();
      repaired = 0;
      for (int i = 0; i < punches.size(); i++) {
        if (isIn(punches, i)) {
          addFromIn(punches, i);
        } else if (!isIn(punches, i - 1)) {
          addFromLoneOut(punches, i);
        }
      }
    }

    private void addFromIn(Table punches, int i) {
      int begin = punches.get(i, TIME);
      boolean last = i + 1 >= punches.size();
      int limit = last ? WEEK : punches.get(i + 1, TIME);
      if (last || isIn(punches, i + 1)) {
        repaired++;
        spans.addSpan(begin, Math.min(begin + REPAIRED_LENGTH, limit));
      } else {
        spans.addSpan(begin, limit);
      }
    }

    private void addFromLoneOut(Table punches, int i) {
      int end = punches.get(i, TIME);
      int limit = i == 0 ? 0 : punches.get(i - 1, TIME);
      repaired++;
      spans.addSpan(Math.max(end - REPAIRED_LENGTH, limit), end);
    }

    private static boolean isIn(Table punches, int i) {
      return punches.get(i, IN) == 1;
    }
  }

  /** The stretches of a week, found by going once through the times at which something begins or ends. */
  private static final class Timeline {
    private final Shifts shiftList;
    private final Table events;
    private final Table stretchList;
    private int coveredTwice;

    Timeline() {
      shiftList = new Shifts();
      events = new Table(2 * MAX_SPANS, 3);
      stretchList = new Table(MAX_SPANS, 2);
      coveredTwice = 0;
    }

    void read(Employee employee) {
      shiftList.read(employee.punches);
      events.clear();
      addEvents(shiftList.spans, 1, 0);
      addEvents(employee.entries, 1, 0);
      addEvents(employee.breaks, 0, 1);
      goThroughEvents();
    }

    private void addEvents(Table spans, int covers, int breaks) {
      for (int i = 0; i < spans.size(); i++) {
        addEvent(spans.get(i, BEGIN), covers, breaks);
        addEvent(spans.get(i, END), -covers, -breaks);
      }
    }

    private void addEvent(int time, int covers, int breaks) {
      int at = events.size();
      for (int i = at - 1; i >= 0 && events.get(i, TIME) > time; i--) {
        at = i;
      }
      events.insert(at);
      events.set(at, TIME, time);
      events.set(at, COVERS, covers);
      events.set(at, BREAKS, breaks);
    }

    private void goThroughEvents() {
      stretchList.clear();
      coveredTwice = 0;
      int covers = 0;
      int breaks = 0;
      int since = 0;
      for (int i = 0; i < events.size(); i++) {
        int time = events.get(i, TIME);
        if (covers >= 2) {
          coveredTwice += time - since;
        }
        if (time > since && covers >= 1 && breaks == 0) {
          addWorked(since, time);
        }
        covers += events.get(i, COVERS);
        breaks += events.get(i, BREAKS);
        since = time;
      }
    }

    private void addWorked(int begin, int end) {
      int last = stretchList.size() - 1;
      if (last >= 0 && stretchList.get(last, END) == begin) {
        stretchList.set(last, END, end);
      } else {
        stretchList.addSpan(begin, end);
      }
    }
  }

  /** The paid minutes of a week, in parts that lie within one day and have one category. */
  private static final class Payroll {
    private final Timeline timeline;
    private final Table paid;
    private final Table parts;

    Payroll() {
      timeline = new Timeline();
      paid = new Table(MAX_PAID, 2);
      parts = new Table(MAX_PARTS, 3);
    }

    void read(Employee employee) {
      timeline.read(employee);
      takeOffAutomaticBreaks(timeline.stretchList);
      parts.clear();
      boolean full = isFull();
      int before = 0;
      for (int day = 0; day < DAYS; day++) {
        addPartsOfDay(day, before, full && day == LAST_DAY);
        before += minutesOnDay(paid, day);
      }
    }

    private void takeOffAutomaticBreaks(Table stretchList) {
      paid.clear();
      for (int i = 0; i < stretchList.size(); i++) {
        int begin = stretchList.get(i, BEGIN);
        int end = stretchList.get(i, END);
        paid.addSpan(begin, Math.min(end, begin + AUTOMATIC_BREAK_BEGIN));
        if (end > begin + AUTOMATIC_BREAK_END) {
          paid.addSpan(begin + AUTOMATIC_BREAK_END, end);
        }
      }
    }

    private boolean isFull() {
      boolean full = true;
      for (int day = 0; day < LAST_DAY; day++) {
        full = full && minutesOnDay(paid, day) > 0;
      }
      return full;
    }

    private void addPartsOfDay(int day, int before, boolean extraDay) {
      int ofDay = 0;
      for (int i = 0; i < paid.size(); i++) {
        int begin = Math.max(paid.get(i, BEGIN), day * DAY);
        int end = Math.min(paid.get(i, END), (day + 1) * DAY);
        if (begin < end) {
          addParts(begin, end, ofDay, before + ofDay, extraDay);
          ofDay += end - begin;
        }
      }
    }

    /** Cuts a span of paid minutes wherever one of the two counts before it reaches a limit. */
    private void addParts(int begin, int end, int ofDay, int ofWeek, boolean extraDay) {
      int at = begin;
      for (int i = 0; i < DAY && at < end; i++) {
        int dayCount = ofDay + at - begin;
        int weekCount = ofWeek + at - begin;
        int length = Math.min(end - at, untilLimit(dayCount, weekCount));
        int row = parts.size();
        parts.addSpan(at, at + length);
        parts.set(row, CATEGORY, categoryFor(dayCount, weekCount, extraDay));
        at += length;
      }
    }

    private static int untilLimit(int dayCount, int weekCount) {
      int least = WEEK;
      if (dayCount < LONG_DAY) {
        least = LONG_DAY - dayCount;
      } else if (dayCount < VERY_LONG_DAY) {
        least = VERY_LONG_DAY - dayCount;
      }
      return weekCount < LONG_WEEK ? Math.min(least, LONG_WEEK - weekCount) : least;
    }

    private static int categoryFor(int dayCount, int weekCount, boolean extraDay) {
      if (dayCount >= VERY_LONG_DAY || extraDay && dayCount >= LONG_DAY) {
        return DOUBLE;
      }
      return dayCount >= LONG_DAY || weekCount >= LONG_WEEK || extraDay ? OVERTIME : REGULAR;
    }

    int categoryAt(int minute) {
      int found = NONE;
      for (int i = 0; i < parts.size(); i++) {
        if (parts.get(i, BEGIN) <= minute && minute < parts.get(i, END)) {
          found = parts.get(i, CATEGORY);
        }
      }
      return found;
    }

    int minutesOf(int day, int category) {
      int sum = 0;
      for (int i = 0; i < parts.size(); i++) {
        if (parts.get(i, CATEGORY) == category && parts.get(i, BEGIN) / DAY == day) {
          sum += parts.get(i, END) - parts.get(i, BEGIN);
        }
      }
      return sum;
    }

    int quartersOf(int day, int category) {
      int own = minutesOf(day, category);
      int left = quartersOfWeek(category);
      int ahead = 0;
      for (int other = 0; other < DAYS; other++) {
        int minutes = minutesOf(other, category);
        int difference = minutes % QUARTER - own % QUARTER;
        left -= minutes / QUARTER;
        if (difference > 0 || difference == 0 && other < day) {
          ahead++;
        }
      }
      return own / QUARTER + (ahead < left ? 1 : 0);
    }

    private int quartersOfWeek(int category) {
      int sum = 0;
      for (int day = 0; day < DAYS; day++) {
        sum += minutesOf(day, category);
      }
      // Fifteen is odd, so no remainder lies half way.
      return (sum + QUARTER / 2) / QUARTER;
    }

    int basicPay(int wage) {
      int weighted = 2 * quartersOfWeek(REGULAR) + 3 * quartersOfWeek(OVERTIME) + 4 * quartersOfWeek(DOUBLE);
      // An int holds it: a week has 672 quarters, so the product stays under 300 million.
      return (wage * weighted + 4) / 8;
    }
  }

  /** The premiums, which hold for all employees. */
  private static final class Premiums {
    private final Table rows;

    Premiums() {
      rows = new Table(MAX_PREMIUMS, 4);
    }

    int add(int days, int from, int to, int rate) {
      int at = rows.size();
      rows.insert(at);
      rows.set(at, DAY_SET, days);
      rows.set(at, FROM, from);
      rows.set(at, TO, to);
      rows.set(at, RATE, rate);
      return at;
    }

    /** The premium pay for the minutes of spans each of which lies within one day. */
    int payFor(Table spans) {
      int sum = 0;
      for (int i = 0; i < spans.size(); i++) {
        sum += sumOver(spans.get(i, BEGIN), spans.get(i, END));
      }
      return (sum + HOUR / 2) / HOUR;
    }

    private int sumOver(int begin, int end) {
      int sum = 0;
      int at = begin;
      for (int i = 0; i < DAY && at < end; i++) {
        int day = at / DAY;
        int stop = Math.min(end, day * DAY + nextChange(at % DAY));
        sum += greatestRate(day, at % DAY) * (stop - at);
        at = stop;
      }
      return sum;
    }

    /** The next minute of the day at which a premium may begin or end, or the end of the day. */
    private int nextChange(int minute) {
      int next = DAY;
      for (int i = 0; i < rows.size(); i++) {
        int from = rows.get(i, FROM);
        int to = rows.get(i, TO);
        next = from > minute ? Math.min(next, from) : next;
        next = to > minute ? Math.min(next, to) : next;
      }
      return next;
    }

    private int greatestRate(int day, int minute) {
      int greatest = 0;
      for (int i = 0; i < rows.size(); i++) {
        boolean onDay = (rows.get(i, DAY_SET) >> day & 1) == 1;
        if (onDay && isBetween(minute, rows.get(i, FROM), rows.get(i, TO))) {
          greatest = Math.max(greatest, rows.get(i, RATE));
        }
      }
      return greatest;
    }

    private static boolean isBetween(int minute, int from, int to) {
      if (from < to) {
        return from <= minute && minute < to;
      }
      return from == to || minute >= from || minute < to;
    }
  }
}
