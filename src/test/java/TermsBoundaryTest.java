/** The boundary cases under "Terms" of the document, a test for each sentence, which stands above it. */
public final class TermsBoundaryTest extends Checks {
  private static final int DAY = 1440;
  private static final int WEEK = 10080;

  // A time is 0 to 10080, a minute 0 to 10079.

  /** "A time is a number of minutes since the beginning of the week, 0 to 10080." */
  private static void timeOfTheWeek() {
    about("Terms, a time is 0 to 10080");
    Steps one = x -> x.hire(1000);
    refused("punch at -1", ARGUMENT, one, x -> x.punch(0, -1, true));
    taken("punch at 0", one, x -> x.punch(0, 0, true), 1);
    taken("punch at 10080", one, x -> x.punch(0, WEEK, true), 1);
    refused("punch at 10081", ARGUMENT, one, x -> x.punch(0, WEEK + 1, true));
    Timesheets x = withOne(1000);
    x.punch(0, 0, true);
    x.punch(0, WEEK, false);
    due("begin of the longest shift", x.shiftBegin(0, 0), 0);
    due("end of the longest shift", x.shiftEnd(0, 0), WEEK);
    due("its minutes", x.longestStretch(0), WEEK);
  }

  /** "Minute m, 0 to 10079, lies between the times m and m + 1" */
  private static void minuteOfTheWeek() {
    about("Terms, a minute is 0 to 10079");
    Steps whole = x -> {
      x.hire(1000);
      x.enter(0, 0, WEEK);
    };
    refused("coverage of minute -1", ARGUMENT, whole, x -> x.coverage(0, -1));
    taken("coverage of minute 0", whole, x -> x.coverage(0, 0), 1);
    taken("coverage of minute 10079", whole, x -> x.coverage(0, WEEK - 1), 1);
    refused("coverage of minute 10080", ARGUMENT, whole, x -> x.coverage(0, WEEK));
    for (int m : new int[] {0, 1, 5000, WEEK - 2, WEEK - 1}) {
      Steps single = x -> {
        x.hire(1000);
        x.enter(0, m, m + 1);
      };
      taken("minute " + m + " between its times", single, x -> x.coverage(0, m), 1);
      taken("the minute before " + m, single, x -> m == 0 ? 0 : x.coverage(0, m - 1), 0);
      taken("the minute after " + m, single, x -> m == WEEK - 1 ? 0 : x.coverage(0, m + 1), 0);
    }
  }

  /** "it belongs to day m / 1440 (days 0 to 6)" */
  private static void dayOfAMinute() {
    for (int day = 0; day < 7; day++) {
      about("Terms, a minute belongs to day m / 1440, day " + day);
      for (int m : new int[] {day * DAY, day * DAY + DAY - 1}) {
        Timesheets x = withOne(1000);
        x.enter(0, m, m + 1);
        for (int other = 0; other < 7; other++) {
          due("minute " + m + " on day " + other, x.workedOn(0, other), other == day ? 1 : 0);
        }
      }
    }
  }

  /** "and has the minute of the day m % 1440." */
  private static void minuteOfTheDay() {
    for (int day = 0; day < 7; day++) {
      about("Terms, a minute has the minute of the day m % 1440, day " + day);
      due("the first minute", premiumAt(day * DAY, 127, 0, 1), 1);
      due("the second minute", premiumAt(day * DAY + 1, 127, 0, 1), 0);
      due("the last minute", premiumAt(day * DAY + 1439, 127, 1439, 0), 1);
      due("the last minute but one", premiumAt(day * DAY + 1438, 127, 1439, 0), 0);
    }
  }

  /** "A span from a to b, with a less than or equal to b, contains the minutes a to b - 1." */
  private static void minutesOfASpan() {
    about("Terms, a span contains the minutes a to b - 1");
    Timesheets x = withOne(1000);
    x.enter(0, 100, 200);
    x.enterBreak(0, 150, 160);
    due("coverage of a - 1", x.coverage(0, 99), 0);
    due("coverage of a", x.coverage(0, 100), 1);
    due("coverage of b - 1", x.coverage(0, 199), 1);
    due("coverage of b", x.coverage(0, 200), 0);
    due("a break: a - 1", x.category(0, 149), REGULAR);
    due("a break: a", x.category(0, 150), NONE);
    due("a break: b - 1", x.category(0, 159), NONE);
    due("a break: b", x.category(0, 160), REGULAR);
    x.punch(0, 0, false);
    due("a span from 0 to 0 contains nothing", x.coverage(0, 0), 0);
  }

  // Shifts.

  private static Timesheets withPunches(int... timesNegativeIfOut) {
    Timesheets x = withOne(1000);
    for (int time : timesNegativeIfOut) {
      x.punch(0, time < 0 ? -time : time, time >= 0);
    }
    return x;
  }

  private static void shift(Timesheets x, int number, int begin, int end) {
    due("begin of shift " + number, x.shiftBegin(0, number), begin);
    due("end of shift " + number, x.shiftEnd(0, number), end);
  }

  private static void howMany(Timesheets x, int shifts, int repaired) {
    due("shifts", x.shifts(0), shifts);
    due("repairedShifts", x.repairedShifts(0), repaired);
  }

  /** "If the next punch is a punch out, the shift ends there." */
  private static void shiftEndsAtThePunchOut() {
    about("Terms, a shift ends at the punch out that is next");
    for (int length : new int[] {1, 479, 480, 481, 9000}) {
      Timesheets x = withPunches(1000, -(1000 + length));
      howMany(x, 1, 0);
      shift(x, 0, 1000, 1000 + length);
    }
    Timesheets x = withPunches(0, -WEEK);
    howMany(x, 1, 0);
    shift(x, 0, 0, WEEK);
  }

  /** "it ends 480 minutes after its beginning, but not later than at the next punch" */
  private static void repairedShiftEndsNotLaterThanTheNextPunch() {
    about("Terms, a repaired shift ends not later than at the next punch");
    for (int gap : new int[] {1, 479, 480, 481, 5000}) {
      Timesheets x = withPunches(1000, 1000 + gap, -9000);
      howMany(x, 2, 1);
      shift(x, 0, 1000, Math.min(1000 + gap, 1480));
      shift(x, 1, 1000 + gap, 9000);
    }
  }

  /** "or at 10080 if there is none." */
  private static void repairedShiftEndsNotLaterThanTheWeek() {
    about("Terms, a repaired shift ends not later than at 10080");
    for (int time : new int[] {0, 9599, 9600, 9601, WEEK - 1, WEEK}) {
      Timesheets x = withPunches(time);
      howMany(x, 1, 1);
      shift(x, 0, time, time > 9600 ? WEEK : time + 480);
    }
  }

  /** "A punch out that is the first punch, or whose previous punch is a punch out, makes a repaired shift" */
  private static void lonePunchOut() {
    about("Terms, a lone punch out makes a repaired shift");
    Timesheets x = withPunches(-2000);
    howMany(x, 1, 1);
    shift(x, 0, 1520, 2000);
    x.punch(0, 3000, false);
    howMany(x, 2, 2);
    shift(x, 1, 2520, 3000);
    x.punch(0, 2700, true);
    howMany(x, 2, 1);
    shift(x, 1, 2700, 3000);
    x.punch(0, 1000, true);
    howMany(x, 2, 0);
    shift(x, 0, 1000, 2000);
  }

  /** "it begins 480 minutes earlier, but not earlier than at the previous punch" */
  private static void repairedShiftBeginsNotEarlierThanThePreviousPunch() {
    about("Terms, a repaired shift begins not earlier than at the previous punch");
    for (int gap : new int[] {1, 479, 480, 481, 5000}) {
      Timesheets x = withPunches(900, -1000, -(1000 + gap));
      howMany(x, 2, 1);
      shift(x, 0, 900, 1000);
      shift(x, 1, Math.max(1000, 1000 + gap - 480), 1000 + gap);
      Timesheets y = withPunches(-1000, -(1000 + gap));
      howMany(y, 2, 2);
      shift(y, 0, 520, 1000);
      shift(y, 1, Math.max(1000, 1000 + gap - 480), 1000 + gap);
    }
  }

  /** "or at 0 if there is none." */
  private static void repairedShiftBeginsNotEarlierThanTheWeek() {
    about("Terms, a repaired shift begins not earlier than at 0");
    for (int time : new int[] {0, 1, 479, 480, 481, WEEK}) {
      Timesheets x = withOne(1000);
      x.punch(0, time, false);
      howMany(x, 1, 1);
      shift(x, 0, time < 480 ? 0 : time - 480, time);
    }
  }

  /** "A repaired shift may contain no minute." */
  private static void shiftWithoutMinutes() {
    about("Terms, a repaired shift may contain no minute");
    Timesheets x = withOne(1000);
    x.punch(0, 0, false);
    x.punch(0, WEEK, true);
    howMany(x, 2, 2);
    shift(x, 0, 0, 0);
    shift(x, 1, WEEK, WEEK);
    due("coverage of minute 0", x.coverage(0, 0), 0);
    due("coverage of minute 10079", x.coverage(0, WEEK - 1), 0);
    due("stretches", x.stretches(0), 0);
    due("longestStretch", x.longestStretch(0), 0);
    x.enter(0, 0, WEEK);
    due("stretches of the whole week", x.stretches(0), 1);
    due("overlap", x.overlap(0), 0);
  }

  /** "Shifts are numbered from 0 in order of time." */
  private static void shiftsInOrderOfTime() {
    about("Terms, shifts are numbered from 0 in order of time");
    Timesheets x = withPunches(9000, -8100, 8000, -6000, 5900, -100);
    howMany(x, 4, 2);
    shift(x, 0, 0, 100);
    shift(x, 1, 5900, 6000);
    shift(x, 2, 8000, 8100);
    shift(x, 3, 9000, 9480);
    for (int number : new int[] {-1, 4, MIN, MAX}) {
      raises("shiftBegin " + number, INDEX, () -> x.shiftBegin(0, number));
      raises("shiftEnd " + number, INDEX, () -> x.shiftEnd(0, number));
    }
  }

  // Entries and breaks.

  /** "A minute is covered by every shift and every entry that contains it." */
  private static void covered() {
    about("Terms, a minute is covered by every shift and entry");
    Timesheets x = withPunches(1000, -1100);
    due("the shift", x.coverage(0, 1050), 1);
    for (int i = 0; i < 20; i++) {
      x.enter(0, 1000 + i, 1100);
    }
    due("the first minute: the shift and one entry", x.coverage(0, 1000), 2);
    due("the shift and all entries", x.coverage(0, 1050), 21);
    due("the last minute", x.coverage(0, 1099), 21);
    due("after the last minute", x.coverage(0, 1100), 0);
  }

  /** "A minute is worked if it is covered at least once and no break contains it." */
  private static void worked() {
    about("Terms, a minute is worked if it is covered and in no break");
    Timesheets x = withOne(1000);
    x.enterBreak(0, 0, 10);
    due("a break alone", x.workedOn(0, 0), 0);
    x.enter(0, 9, 11);
    due("covered once, the first minute in the break", x.workedOn(0, 0), 1);
    x.enter(0, 9, 11);
    due("covered twice", x.workedOn(0, 0), 1);
    x.enterBreak(0, 10, 11);
    due("none is left", x.workedOn(0, 0), 0);
    x.enterBreak(0, 5, 11);
    x.removeBreak(0, 1);
    due("one of two breaks is removed", x.workedOn(0, 0), 0);
  }

  // Stretches.

  /** "A stretch is a largest run of consecutive minutes that are worked, whatever covers them" */
  private static void stretchWhateverCovers() {
    about("Terms, a stretch is a largest run, whatever covers it");
    Timesheets x = withPunches(1000, -1100);
    x.enter(0, 1100, 1200);
    x.punch(0, 1200, true);
    due("side by side", x.stretches(0), 1);
    due("their length", x.longestStretch(0), 680);
    x.removeEntry(0, 0);
    x.enter(0, 1101, 1199);
    due("a minute is missing on each side", x.stretches(0), 3);
    x.enter(0, 1050, 1101);
    due("on one side", x.stretches(0), 2);
    x.enter(0, 1190, 1201);
    due("on none", x.stretches(0), 1);
    x.enterBreak(0, 1150, 1151);
    due("a break of one minute", x.stretches(0), 2);
    due("the longer part", x.longestStretch(0), 529);
  }

  /** "it may go on over midnight." */
  private static void stretchOverMidnight() {
    for (int midnight = DAY; midnight < WEEK; midnight += DAY) {
      about("Terms, a stretch may go on over midnight, at " + midnight);
      Timesheets x = withOne(1000);
      x.enter(0, midnight - 1, midnight);
      x.enter(0, midnight, midnight + 1);
      due("stretches", x.stretches(0), 1);
      due("longestStretch", x.longestStretch(0), 2);
      x.removeEntry(0, 1);
      x.enter(0, midnight - 375, midnight + 25);
      due("the 360th minute", x.category(0, midnight - 16), REGULAR);
      due("the 361st", x.category(0, midnight - 15), NONE);
      due("the 390th", x.category(0, midnight + 14), NONE);
      due("the 391st", x.category(0, midnight + 15), REGULAR);
      due("paid on the day before", x.minutes(0, midnight / DAY - 1, REGULAR), 360);
      due("paid on the day after", x.minutes(0, midnight / DAY, REGULAR), 10);
    }
  }

  /** "paid, except for its 361st to 390th minute, as far as it has these; they are an automatic break." */
  private static void automaticBreak() {
    for (int length : new int[] {1, 359, 360, 361, 362, 370, 389, 390, 391, 392, 480}) {
      about("Terms, the automatic break of a stretch of " + length);
      Timesheets x = withOne(1000);
      x.enter(0, DAY, DAY + length);
      due("the 360th minute", x.category(0, DAY + 359), length >= 360 ? REGULAR : NONE);
      due("the 361st minute", x.category(0, DAY + 360), NONE);
      due("the 390th minute", x.category(0, DAY + 389), NONE);
      due("the 391st minute", x.category(0, DAY + 390), length >= 391 ? REGULAR : NONE);
      due("paid minutes", x.minutes(0, 1, REGULAR), length <= 360 ? length : length <= 390 ? 360 : length - 30);
      due("worked minutes", x.workedOn(0, 1), length);
      due("longestStretch", x.longestStretch(0), length);
    }
  }

  /** "(A stretch of 370 minutes has 360 paid ones.)" */
  private static void stretchOf370() {
    about("Terms, a stretch of 370 minutes has 360 paid ones");
    Timesheets x = withOne(1000);
    x.enter(0, 0, 370);
    due("at the beginning of the week", x.minutes(0, 0, REGULAR), 360);
    x.enter(0, WEEK - 370, WEEK);
    due("at the end of the week", x.minutes(0, 6, REGULAR), 360);
  }

  /** "The minutes of a stretch are paid, except for its 361st to 390th": every stretch has a break of its own. */
  private static void automaticBreakOfEachStretch() {
    about("Terms, each stretch has its own automatic break, and only one");
    Timesheets x = withOne(1000);
    x.enter(0, 0, WEEK);
    int paid = 0;
    for (int day = 0; day < 7; day++) {
      paid += x.minutes(0, day, REGULAR) + x.minutes(0, day, OVERTIME) + x.minutes(0, day, DOUBLE);
    }
    due("paid minutes of the whole week", paid, WEEK - 30);
    due("the 361st minute after the break", x.category(0, 750), DOUBLE);
    Timesheets y = withOne(1000);
    y.enter(0, 0, 360);
    y.enter(0, 361, 721);
    due("two stretches of 360: the first", y.minutes(0, 0, REGULAR), 480);
    due("two stretches of 360: the second", y.minutes(0, 0, OVERTIME), 240);
    y.enter(0, 360, 361);
    due("one stretch of 721", y.minutes(0, 0, OVERTIME), 211);
    y.enterBreak(0, 360, 390);
    due("a break where the automatic one was", y.category(0, 390), REGULAR);
    due("the stretch begins anew after it", y.minutes(0, 0, OVERTIME), 211);
  }

  // Categories.

  /** So many minutes on a day, with a pause after each 240 of them, so that no break is automatic. */
  private static void workOn(Timesheets x, int day, int minutes) {
    int at = day * DAY;
    for (int left = minutes; left > 0; left -= 240) {
      x.enter(0, at, at + Math.min(left, 240));
      at += 300;
    }
  }

  /** The time at which the minute number n (from 0) of such a day begins. */
  private static int minuteOf(int day, int n) {
    return day * DAY + n / 240 * 300 + n % 240;
  }

  /** "DOUBLE if d is 720 or more", "Otherwise it is OVERTIME if d is 480 or more", "Otherwise it is REGULAR." */
  private static void minutesOfTheDayBefore() {
    for (int day = 0; day < 7; day++) {
      about("Terms, d of 480 and of 720, day " + day);
      Timesheets x = withOne(1000);
      workOn(x, day, 960);
      due("d 0", x.category(0, minuteOf(day, 0)), REGULAR);
      due("d 479", x.category(0, minuteOf(day, 479)), REGULAR);
      due("d 480", x.category(0, minuteOf(day, 480)), OVERTIME);
      due("d 719", x.category(0, minuteOf(day, 719)), OVERTIME);
      due("d 720", x.category(0, minuteOf(day, 720)), DOUBLE);
      due("d 959", x.category(0, minuteOf(day, 959)), DOUBLE);
      due("not worked", x.category(0, minuteOf(day, 959) + 1), NONE);
    }
  }

  /** "Let d be the number of paid minutes of the same day that lie before it" */
  private static void onlyPaidMinutesOfTheSameDayCount() {
    about("Terms, d counts the paid minutes of the same day");
    Timesheets x = withOne(1000);
    x.enter(0, 720, 720 + DAY);
    due("d 479, the automatic break left out", x.category(0, 720 + 509), REGULAR);
    due("d 480", x.category(0, 720 + 510), OVERTIME);
    due("d 689, the last of the day", x.category(0, 1439), OVERTIME);
    due("d 0 of the next day", x.category(0, 1440), REGULAR);
    due("d 479 of the next day", x.category(0, 1440 + 479), REGULAR);
    due("d 480 of the next day", x.category(0, 1440 + 480), OVERTIME);
    x.enterBreak(0, 1440, 1441);
    due("a minute of a break", x.category(0, 1440), NONE);
    due("d 479, both breaks left out", x.category(0, 1441 + 509), REGULAR);
    due("d 480, both breaks left out", x.category(0, 1441 + 510), OVERTIME);
  }

  /** "or if w is 2400 or more" */
  private static void minutesOfTheWeekBefore() {
    about("Terms, w of 2400");
    Timesheets x = withOne(1000);
    for (int day = 0; day < 4; day++) {
      workOn(x, day, 480);
    }
    workOn(x, 4, 479);
    workOn(x, 5, 2);
    due("w 2398, d 478", x.category(0, minuteOf(4, 478)), REGULAR);
    due("w 2399, d 0", x.category(0, minuteOf(5, 0)), REGULAR);
    due("w 2400, d 1", x.category(0, minuteOf(5, 1)), OVERTIME);
    x.enterBreak(0, 0, 1);
    due("w 2399, d 1", x.category(0, minuteOf(5, 1)), REGULAR);
    Timesheets y = withOne(1000);
    for (int day = 0; day < 3; day++) {
      workOn(y, day, 700);
    }
    workOn(y, 3, 301);
    due("w 2399, d 299, after a pause", y.category(0, minuteOf(3, 299)), REGULAR);
    due("w 2400, d 300, after a pause", y.category(0, minuteOf(3, 300)), OVERTIME);
  }

  /** "and w the number of paid minutes of the week that lie before it": those of every category. */
  private static void allPaidMinutesOfTheWeekCount() {
    about("Terms, w counts paid minutes of every category");
    Timesheets x = withOne(1000);
    workOn(x, 0, 960);
    workOn(x, 1, 960);
    workOn(x, 2, 481);
    due("w 2399, d 479", x.category(0, minuteOf(2, 479)), REGULAR);
    due("w 2400, d 480", x.category(0, minuteOf(2, 480)), OVERTIME);
    workOn(x, 3, 1);
    due("w 2401, d 0", x.category(0, minuteOf(3, 0)), OVERTIME);
    x.removeEntry(0, 0);
    due("w 2161, d 0", x.category(0, minuteOf(3, 0)), REGULAR);
  }

  /** "The category is DOUBLE if d is 720 or more", before w is asked. */
  private static void doubleBeforeOvertime() {
    about("Terms, DOUBLE goes before OVERTIME");
    Timesheets x = withOne(1000);
    for (int day = 0; day < 4; day++) {
      workOn(x, day, 721);
    }
    due("w 2163, d 0", x.category(0, minuteOf(3, 0)), REGULAR);
    due("w 2399, d 236", x.category(0, minuteOf(3, 236)), REGULAR);
    due("w 2400, d 237", x.category(0, minuteOf(3, 237)), OVERTIME);
    due("w 2882, d 719", x.category(0, minuteOf(3, 719)), OVERTIME);
    due("w 2883, d 720", x.category(0, minuteOf(3, 720)), DOUBLE);
  }

  /** "The week is full if each of the days 0 to 5 has at least one paid minute." */
  private static void fullWeek() {
    about("Terms, the full week");
    Timesheets x = withOne(1000);
    for (int day = 0; day < 6; day++) {
      due("days 0 to " + (day - 1), x.category(0, WEEK - 1), day == 0 ? NONE : REGULAR);
      int minute = day % 2 == 0 ? day * DAY : day * DAY + DAY - 1;
      x.enter(0, minute, minute + 1);
      if (day == 0) {
        x.enter(0, WEEK - 1, WEEK);
      }
    }
    due("one minute on each day", x.category(0, WEEK - 1), OVERTIME);
    due("day 0 of a full week", x.category(0, 0), REGULAR);
    due("day 5 of a full week", x.category(0, 6 * DAY - 1), REGULAR);
    for (int day = 0; day < 6; day++) {
      x.enterBreak(0, day * DAY, day * DAY + DAY);
      due("without day " + day, x.category(0, WEEK - 1), REGULAR);
      x.removeBreak(0, 0);
    }
    due("full again", x.category(0, WEEK - 1), OVERTIME);
  }

  /** "each of the days 0 to 5 has at least one paid minute": a worked minute of an automatic break is none. */
  private static void fullWeekNeedsPaidMinutes() {
    // A stretch begins with paid minutes, so day 0 can't be worked without being paid.
    for (int without = 1; without < 6; without++) {
      about("Terms, the full week needs paid minutes, day " + without);
      Timesheets x = withOne(1000);
      x.enter(0, without * DAY - 360, without * DAY + 30);
      for (int day = 0; day < 6; day++) {
        if (day != without) {
          x.enter(0, day * DAY, day * DAY + 1);
        }
      }
      x.enter(0, 6 * DAY, 6 * DAY + 1);
      due("it is worked", x.workedOn(0, without), 30);
      due("but not paid", x.category(0, 6 * DAY), REGULAR);
      x.enter(0, without * DAY + 30, without * DAY + 31);
      due("it has one paid minute", x.category(0, 6 * DAY), OVERTIME);
    }
  }

  /** "or if the minute belongs to day 6, the week is full, and d is 480 or more" */
  private static void dayOfAFullWeek() {
    about("Terms, day 6 of a full week");
    Timesheets x = withOne(1000);
    for (int day = 0; day < 6; day++) {
      x.enter(0, day * DAY + 700, day * DAY + 701);
    }
    workOn(x, 6, 721);
    due("d 0", x.category(0, minuteOf(6, 0)), OVERTIME);
    due("d 479", x.category(0, minuteOf(6, 479)), OVERTIME);
    due("d 480", x.category(0, minuteOf(6, 480)), DOUBLE);
    due("d 720", x.category(0, minuteOf(6, 720)), DOUBLE);
    x.enterBreak(0, 700, 701);
    due("not full, d 0", x.category(0, minuteOf(6, 0)), REGULAR);
    due("not full, d 479", x.category(0, minuteOf(6, 479)), REGULAR);
    due("not full, d 480", x.category(0, minuteOf(6, 480)), OVERTIME);
    due("not full, d 719", x.category(0, minuteOf(6, 719)), OVERTIME);
    due("not full, d 720", x.category(0, minuteOf(6, 720)), DOUBLE);
  }

  /** "if the minute belongs to day 6": the full week changes no other day. */
  private static void otherDaysOfAFullWeek() {
    about("Terms, day 5 of a full week");
    Timesheets x = withOne(1000);
    for (int day = 0; day < 5; day++) {
      x.enter(0, day * DAY, day * DAY + 1);
    }
    workOn(x, 5, 721);
    x.enter(0, 6 * DAY, 6 * DAY + 1);
    due("the week is full", x.category(0, 6 * DAY), OVERTIME);
    due("day 5, d 0", x.category(0, minuteOf(5, 0)), REGULAR);
    due("day 5, d 479", x.category(0, minuteOf(5, 479)), REGULAR);
    due("day 5, d 480", x.category(0, minuteOf(5, 480)), OVERTIME);
    due("day 5, d 719", x.category(0, minuteOf(5, 719)), OVERTIME);
    due("day 5, d 720", x.category(0, minuteOf(5, 720)), DOUBLE);
  }

  // Quarters.

  /** Minutes of a category for each day, and the quarters that are due for them. */
  private static void quartersOf(int[] minutes, int... quarters) {
    quartersOfDouble(minutes, quarters);
    boolean full = true;
    for (int day = 0; day < 6; day++) {
      full = full && minutes[day] > 0;
    }
    // On day 6 of a full week no minute is REGULAR.
    if (!full) {
      quartersOfRegular(minutes, quarters);
    }
  }

  private static void quartersOfRegular(int[] minutes, int[] quarters) {
    Timesheets x = withOne(1000);
    for (int day = 0; day < 7; day++) {
      if (minutes[day] > 0) {
        x.enter(0, day * DAY, day * DAY + minutes[day]);
      }
    }
    for (int day = 0; day < 7; day++) {
      due("REGULAR of day " + day, x.quarters(0, day, REGULAR), quarters[day]);
    }
  }

  private static void quartersOfDouble(int[] minutes, int[] quarters) {
    Timesheets x = withOne(1000);
    for (int day = 0; day < 7; day++) {
      // The automatic break, then 720 paid minutes, or 480 on day 6 of a full week, are not DOUBLE.
      x.enter(0, day * DAY, day * DAY + 30 + (day == 6 ? 480 : 720) + minutes[day]);
    }
    for (int day = 0; day < 7; day++) {
      due("minutes of day " + day, x.minutes(0, day, DOUBLE), minutes[day]);
      due("DOUBLE of day " + day, x.quarters(0, day, DOUBLE), quarters[day]);
    }
  }

  /** "Let q be the minutes of the category in a day divided by 15, rounded down" */
  private static void wholeQuarters() {
    about("Terms, q is rounded down");
    quartersOf(new int[] {0, 15, 30, 45, 60, 75, 90}, 0, 1, 2, 3, 4, 5, 6);
    // The remainders 14, 1 and 1 are one quarter, which the first takes: 29, 16 and 1 have the q of 1, 1 and 0.
    quartersOf(new int[] {29, 16, 1, 0, 0, 0, 0}, 2, 1, 0, 0, 0, 0, 0);
    quartersOf(new int[] {7, 0, 0, 0, 0, 0, 0}, 0, 0, 0, 0, 0, 0, 0);
  }

  /** "the minutes of the category in the week divided by 15, rounded to the nearest number." */
  private static void quartersOfTheWeek() {
    about("Terms, the quarters of the week are rounded to the nearest number");
    int[] minutes = {1, 7, 8, 14, 15, 22, 23, 29, 30};
    int[] quarters = {0, 0, 1, 1, 1, 1, 2, 2, 2};
    for (int i = 0; i < minutes.length; i++) {
      quartersOf(new int[] {0, 0, 0, minutes[i], 0, 0, 0}, 0, 0, 0, quarters[i], 0, 0, 0);
    }
    about("Terms, seven minutes of seven days are no quarter, eight are one");
    quartersOf(new int[] {1, 1, 1, 1, 1, 1, 1}, 0, 0, 0, 0, 0, 0, 0);
    quartersOf(new int[] {1, 1, 1, 1, 1, 1, 2}, 0, 0, 0, 0, 0, 0, 1);
    about("Terms, all days have a quarter that is left");
    quartersOf(new int[] {14, 14, 14, 14, 14, 14, 14}, 1, 1, 1, 1, 1, 1, 1);
    quartersOf(new int[] {14, 14, 14, 14, 14, 14, 13}, 1, 1, 1, 1, 1, 1, 0);
  }

  /** "the quarters of the week that are left are given, one each, to the days with the greatest r" */
  private static void quartersToTheGreatestRemainders() {
    about("Terms, the quarters that are left go to the days with the greatest r");
    quartersOf(new int[] {8, 0, 0, 0, 0, 0, 9}, 0, 0, 0, 0, 0, 0, 1);
    quartersOf(new int[] {9, 0, 0, 0, 0, 0, 8}, 1, 0, 0, 0, 0, 0, 0);
    quartersOf(new int[] {0, 10, 12, 0, 11, 0, 0}, 0, 0, 1, 0, 1, 0, 0);
    quartersOf(new int[] {150, 29, 0, 3, 0, 0, 3}, 10, 2, 0, 0, 0, 0, 0);
    quartersOf(new int[] {15, 15, 15, 15, 15, 15, 8}, 1, 1, 1, 1, 1, 1, 1);
  }

  /** "of days with the same r, to the earlier one first." */
  private static void quartersToTheEarlierDay() {
    about("Terms, of days with the same r the earlier one is first");
    quartersOf(new int[] {0, 0, 0, 8, 0, 8, 0}, 0, 0, 0, 1, 0, 0, 0);
    quartersOf(new int[] {0, 0, 0, 8, 0, 38, 0}, 0, 0, 0, 1, 0, 2, 0);
    quartersOf(new int[] {3, 3, 3, 3, 3, 3, 3}, 1, 0, 0, 0, 0, 0, 0);
    quartersOf(new int[] {5, 5, 5, 5, 5, 5, 5}, 1, 1, 0, 0, 0, 0, 0);
    quartersOf(new int[] {5, 5, 5, 5, 5, 5, 6}, 1, 0, 0, 0, 0, 0, 1);
    quartersOf(new int[] {0, 11, 4, 11, 4, 11, 4}, 0, 1, 0, 1, 0, 1, 0);
  }

  /** "The minutes of a category are rounded for each day to quarters of an hour": each category on its own. */
  private static void quartersOfEachCategory() {
    about("Terms, each category is rounded on its own");
    Timesheets x = withOne(1000);
    workOn(x, 0, 488);
    workOn(x, 1, 729);
    workOn(x, 2, 488);
    due("REGULAR", x.quarters(0, 0, REGULAR), 32);
    due("OVERTIME 8, 240 and 8: day 0", x.quarters(0, 0, OVERTIME), 1);
    due("OVERTIME 8, 240 and 8: day 1", x.quarters(0, 1, OVERTIME), 16);
    due("OVERTIME 8, 240 and 8: day 2", x.quarters(0, 2, OVERTIME), 0);
    due("DOUBLE 9", x.quarters(0, 1, DOUBLE), 1);
    due("no DOUBLE", x.quarters(0, 0, DOUBLE), 0);
  }

  // Premiums.

  /** 1 if a premium of these days and this span applies to the minute, 0 if not. */
  private static int premiumAt(int minute, int days, int from, int to) {
    Timesheets x = withOne(1000);
    x.enter(0, minute, minute + 1);
    x.addPremium(days, from, to, 60);
    return x.premiumPay(0);
  }

  /** Asks each minute of the day that stands beside an edge of the span. */
  private static void applies(int from, int to, int... minutes) {
    for (int minute : new int[] {0, 1, 2, 699, 700, 701, 1437, 1438, 1439}) {
      int want = 0;
      for (int contained : minutes) {
        want = contained == minute ? 1 : want;
      }
      due("minute " + minute + " in " + from + " to " + to, premiumAt(3 * DAY + minute, 8, from, to), want);
    }
  }

  /** "if from is less than to, these are the minutes from, and so on up to to - 1" */
  private static void premiumWithinTheDay() {
    about("Terms, a premium whose from is less than its to");
    applies(0, 1, 0);
    applies(1, 700, 1, 2, 699);
    applies(700, 701, 700);
    applies(1438, 1439, 1438);
    applies(0, 1439, 0, 1, 2, 699, 700, 701, 1437, 1438);
  }

  /** "if from is greater than to, they are the minutes from, and so on up to 1439, and also 0, ... up to to - 1" */
  private static void premiumOverMidnight() {
    about("Terms, a premium whose from is greater than its to");
    applies(1439, 0, 1439);
    applies(1439, 1, 1439, 0);
    applies(1438, 2, 1438, 1439, 0, 1);
    applies(1, 0, 1, 2, 699, 700, 701, 1437, 1438, 1439);
    applies(701, 700, 701, 1437, 1438, 1439, 0, 1, 2, 699);
    applies(1439, 1438, 1439, 0, 1, 2, 699, 700, 701, 1437);
  }

  /** "if both are equal, they are all minutes of the day." */
  private static void premiumAllDay() {
    about("Terms, a premium whose from is equal to its to");
    for (int both : new int[] {0, 1, 700, 1438, 1439}) {
      applies(both, both, 0, 1, 2, 699, 700, 701, 1437, 1438, 1439);
    }
  }

  /** "It applies to a minute if the set contains the day of the minute" */
  private static void daysOfAPremium() {
    about("Terms, a premium applies on the days of its set");
    for (int k = 0; k < 7; k++) {
      for (int day = 0; day < 7; day++) {
        due("bit " + k + ", the evening of day " + day, premiumAt(day * DAY + 1439, 1 << k, 1439, 1), k == day ? 1 : 0);
        due("bit " + k + ", the morning of day " + day, premiumAt(day * DAY, 1 << k, 1439, 1), k == day ? 1 : 0);
        due("all but " + k + ", day " + day, premiumAt(day * DAY, 127 - (1 << k), 0, 0), k == day ? 0 : 1);
      }
    }
  }

  /** "The premium of a paid minute is the greatest rate of the premiums that apply to it" */
  private static void greatestPremium() {
    about("Terms, the greatest premium counts");
    Timesheets x = withOne(1000);
    x.enter(0, 0, 60);
    x.addPremium(1, 0, 60, 300);
    due("one", x.premiumPay(0), 300);
    x.addPremium(1, 0, 60, 299);
    due("a lesser one", x.premiumPay(0), 300);
    x.addPremium(1, 0, 60, 300);
    due("an equal one", x.premiumPay(0), 300);
    x.addPremium(1, 59, 60, 360);
    due("a greater one for the last minute", x.premiumPay(0), 301);
    x.addPremium(126, 0, 0, 10000);
    due("a greater one on other days", x.premiumPay(0), 301);
    x.addPremium(1, 60, 0, 10000);
    due("a greater one at other minutes", x.premiumPay(0), 301);
  }

  /** "0 if none does." */
  private static void noPremium() {
    about("Terms, no premium applies");
    Timesheets x = withOne(1000);
    x.enter(0, 0, 60);
    due("without premiums", x.premiumPay(0), 0);
    x.addPremium(1, 60, 120, 10000);
    x.addPremium(2, 0, 60, 10000);
    due("with premiums of other minutes", x.premiumPay(0), 0);
    x.enter(0, 60, 61);
    due("one minute of a premium", x.premiumPay(0), 167);
  }

  /** "the sum of the premiums of all paid minutes": not of those that are worked and not paid. */
  private static void premiumOfPaidMinutes() {
    about("Terms, only paid minutes have a premium");
    Timesheets x = withOne(1000);
    x.addPremium(127, 0, 0, 60);
    x.enter(0, 1000, 1360);
    due("360 minutes", x.premiumPay(0), 360);
    x.enter(0, 1360, 1390);
    due("390 minutes", x.premiumPay(0), 360);
    x.enter(0, 1390, 1391);
    due("391 minutes", x.premiumPay(0), 361);
    x.enterBreak(0, 1000, 1001);
    due("390 minutes after a break", x.premiumPay(0), 360);
  }

  // Pay.

  /** "The basic pay of a week ... rounded to whole cents." "In both cases half a cent is rounded up." */
  private static void basicPayRounded() {
    about("Terms, half a cent of basic pay is rounded up");
    // A quarter of an hour of REGULAR is two eighths of the wage.
    int[] wages = {1, 2, 3, 5, 6, 7, 99999, 100000};
    int[] cents = {0, 1, 1, 1, 2, 2, 25000, 25000};
    for (int i = 0; i < wages.length; i++) {
      Timesheets x = withOne(wages[i]);
      x.enter(0, 0, 15);
      due("a quarter at " + wages[i], x.pay(0), cents[i]);
    }
  }

  /** "with the factor 2 for REGULAR, 3 for OVERTIME and 4 for DOUBLE" */
  private static void factors() {
    about("Terms, the factors of the categories");
    Timesheets x = withOne(1000);
    workOn(x, 0, 480);
    due("32 quarters REGULAR", x.pay(0), 8000);
    workOn(x, 0, 735);
    due("and 16 OVERTIME, one DOUBLE", x.pay(0), 8000 + 6000 + 500);
  }

  /** "it is added up exactly and then rounded to whole cents." */
  private static void basicPayAddedUpExactly() {
    about("Terms, the basic pay is added up exactly and then rounded");
    Timesheets x = withOne(1);
    for (int day = 0; day < 6; day++) {
      x.enter(0, day * DAY, day * DAY + 1);
    }
    due("6 minutes REGULAR are no quarter", x.pay(0), 0);
    x.enter(0, 6 * DAY, 6 * DAY + 15);
    due("a quarter OVERTIME: 3 eighths", x.pay(0), 0);
    x.enter(0, 0, 3);
    due("8 minutes REGULAR: 2 eighths more, which alone are less than half a cent too", x.pay(0), 1);
    x.removeEntry(0, 6);
    due("2 eighths alone", x.pay(0), 0);
  }

  /** "divided by 60, rounded to whole cents. In both cases half a cent is rounded up." */
  private static void premiumPayRounded() {
    about("Terms, half a cent of premium pay is rounded up");
    int[] minutes = {1, 29, 30, 31, 59, 60, 89, 90, 91};
    int[] cents = {0, 0, 1, 1, 1, 1, 1, 2, 2};
    for (int i = 0; i < minutes.length; i++) {
      Timesheets x = withOne(1000);
      x.enter(0, 0, minutes[i]);
      x.addPremium(1, 0, 0, 1);
      due(minutes[i] + " sixtieths", x.premiumPay(0), cents[i]);
    }
    Timesheets x = withOne(1000);
    x.addPremium(127, 0, 0, 1);
    for (int day = 0; day < 7; day++) {
      x.enter(0, day * DAY, day * DAY + 5);
    }
    due("35 sixtieths of seven days", x.premiumPay(0), 1);
  }

  /** "In both cases half a cent is rounded up": each is rounded before they are put together. */
  private static void bothRoundedApart() {
    about("Terms, basic pay and premium pay are rounded apart");
    Timesheets x = withOne(1);
    x.addPremium(1, 0, 0, 1);
    x.enter(0, 0, 29);
    due("half a cent and 29 sixtieths", x.pay(0), 1);
    x.enter(0, 29, 30);
    due("half a cent and half a cent", x.pay(0), 2);
    x.setWage(0, 2);
    x.enter(0, 100, 100 + 59);
    due("3 cents and 89 sixtieths", x.pay(0), 3 + 1);
  }

  public static void main(String[] args) {
    timeOfTheWeek();
    minuteOfTheWeek();
    dayOfAMinute();
    minuteOfTheDay();
    minutesOfASpan();
    shiftEndsAtThePunchOut();
    repairedShiftEndsNotLaterThanTheNextPunch();
    repairedShiftEndsNotLaterThanTheWeek();
    lonePunchOut();
    repairedShiftBeginsNotEarlierThanThePreviousPunch();
    repairedShiftBeginsNotEarlierThanTheWeek();
    shiftWithoutMinutes();
    shiftsInOrderOfTime();
    covered();
    worked();
    stretchWhateverCovers();
    stretchOverMidnight();
    automaticBreak();
    stretchOf370();
    automaticBreakOfEachStretch();
    minutesOfTheDayBefore();
    onlyPaidMinutesOfTheSameDayCount();
    minutesOfTheWeekBefore();
    allPaidMinutesOfTheWeekCount();
    doubleBeforeOvertime();
    fullWeek();
    fullWeekNeedsPaidMinutes();
    dayOfAFullWeek();
    otherDaysOfAFullWeek();
    wholeQuarters();
    quartersOfTheWeek();
    quartersToTheGreatestRemainders();
    quartersToTheEarlierDay();
    quartersOfEachCategory();
    premiumWithinTheDay();
    premiumOverMidnight();
    premiumAllDay();
    daysOfAPremium();
    greatestPremium();
    noPremium();
    premiumOfPaidMinutes();
    basicPayRounded();
    factors();
    basicPayAddedUpExactly();
    premiumPayRounded();
    bothRoundedApart();
    finish();
  }
}
