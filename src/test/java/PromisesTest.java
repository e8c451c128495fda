/** Every promise of the document by hand: ordinary inputs, the edges that it names, and wrong inputs. */
public final class PromisesTest extends Checks {
  private static final int[] OUTSIDE = {-1, MIN, MAX};

  private static int at(int day, int hour, int minute) {
    return day * 1440 + hour * 60 + minute;
  }

  private static void newObject() {
    about("1 a new object");
    Timesheets x = new Timesheets();
    due("employees", x.employees(), 0);
    raises("pay(0)", INDEX, () -> x.pay(0));
    raises("removePremium(0)", INDEX, () -> x.removePremium(0));
    x.hire(600);
    Timesheets other = new Timesheets();
    due("employees of another object", other.employees(), 0);
    due("employees of the first object", x.employees(), 1);
  }

  private static void hire() {
    about("2 hire");
    Timesheets x = new Timesheets();
    for (int wage : new int[] {0, -1, 100001, MIN, MAX}) {
      raises("hire(" + wage + ")", ARGUMENT, () -> x.hire(wage));
    }
    due("employees after wrong wages", x.employees(), 0);
    due("hire(1)", x.hire(1), 0);
    due("hire(100000)", x.hire(100000), 1);
    for (int i = 2; i < 6; i++) {
      due("hire", x.hire(1000 + i), i);
    }
    raises("a seventh", STATE, () -> x.hire(1000));
    raises("a seventh with a wrong wage", ARGUMENT, () -> x.hire(0));
    due("employees", x.employees(), 6);
    for (int i = 0; i < 6; i++) {
      due("stretches", x.stretches(i), 0);
      due("shifts", x.shifts(i), 0);
      due("pay", x.pay(i), 0);
      due("closedWeeks", x.closedWeeks(i), 0);
      due("earned", x.earned(i), 0);
    }
    due("the least wage", x.setWage(0, 5), 1);
    due("the greatest wage", x.setWage(1, 5), 100000);
    due("the last wage", x.setWage(5, 5), 1005);
  }

  private static void setWage() {
    about("3 setWage");
    Timesheets x = withOne(800);
    x.enter(0, 0, 60);
    due("pay before", x.pay(0), 800);
    due("setWage(0, 1000)", x.setWage(0, 1000), 800);
    due("pay after", x.pay(0), 1000);
    raises("setWage(0, 0)", ARGUMENT, () -> x.setWage(0, 0));
    raises("setWage(0, 100001)", ARGUMENT, () -> x.setWage(0, 100001));
    raises("setWage(1, 100)", INDEX, () -> x.setWage(1, 100));
    raises("setWage(1, 0)", INDEX, () -> x.setWage(1, 0));
    raises("setWage(-1, 0)", INDEX, () -> x.setWage(-1, 0));
    due("setWage(0, 1)", x.setWage(0, 1), 1000);
    due("setWage(0, 100000)", x.setWage(0, 100000), 1);
    x.closeWeek(0);
    due("earned", x.earned(0), 100000);
    x.enter(0, 0, 60);
    due("pay of the week that follows", x.pay(0), 100000);
    due("earned is paid already", x.earned(0), 100000);
  }

  private static void punch() {
    about("4 punch");
    Timesheets x = withOne(1000);
    due("punch(0, 100, true)", x.punch(0, 100, true), 1);
    due("punch(0, 10080, false)", x.punch(0, 10080, false), 2);
    due("punch(0, 0, false)", x.punch(0, 0, false), 3);
    raises("time -1", ARGUMENT, () -> x.punch(0, -1, true));
    raises("time 10081", ARGUMENT, () -> x.punch(0, 10081, true));
    raises("the same time", STATE, () -> x.punch(0, 100, true));
    raises("the same time, out", STATE, () -> x.punch(0, 100, false));
    raises("no employee, wrong time", INDEX, () -> x.punch(1, -1, true));
    raises("no employee", INDEX, () -> x.punch(-1, 5, true));
    for (int i = 4; i <= 40; i++) {
      due("punch " + i, x.punch(0, 4000 - i, i % 2 == 0), i);
    }
    raises("a 41st punch", STATE, () -> x.punch(0, 7000, true));
    raises("a 41st punch, wrong time", ARGUMENT, () -> x.punch(0, 10081, true));
    due("removePunch makes room", x.removePunch(0, 100) ? 1 : 0, 1);
    due("the 40th again", x.punch(0, 7000, true), 40);
  }

  private static void removePunch() {
    about("5 removePunch");
    Timesheets x = withOne(1000);
    x.punch(0, 500, true);
    x.punch(0, 300, false);
    x.punch(0, 400, true);
    raises("no punch at this time", ELEMENT, () -> x.removePunch(0, 301) ? 1 : 0);
    for (int time : OUTSIDE) {
      raises("time " + time, ELEMENT, () -> x.removePunch(0, time) ? 1 : 0);
    }
    raises("no such employee", INDEX, () -> x.removePunch(1, 300) ? 1 : 0);
    raises("no such employee, no punch", INDEX, () -> x.removePunch(-1, 301) ? 1 : 0);
    due("a punch out", x.removePunch(0, 300) ? 1 : 0, 0);
    due("shifts", x.shifts(0), 2);
    due("a punch in", x.removePunch(0, 400) ? 1 : 0, 1);
    raises("it is gone", ELEMENT, () -> x.removePunch(0, 400) ? 1 : 0);
    due("shiftBegin", x.shiftBegin(0, 0), 500);
    due("punch", x.punch(0, 400, false), 2);
  }

  private static void enter() {
    about("6 enter");
    Timesheets x = withOne(1000);
    for (int from : new int[] {-1, 10080, MIN, MAX}) {
      raises("from " + from, ARGUMENT, () -> x.enter(0, from, 10080));
    }
    raises("to is from", ARGUMENT, () -> x.enter(0, 10, 10));
    raises("to is before from", ARGUMENT, () -> x.enter(0, 10, 9));
    raises("to 10081", ARGUMENT, () -> x.enter(0, 10, 10081));
    raises("no such employee, wrong span", INDEX, () -> x.enter(1, 10, 10));
    raises("no such employee", INDEX, () -> x.enter(-1, 10, 20));
    due("nothing is entered", x.stretches(0), 0);
    due("the last minute", x.enter(0, 10079, 10080), 0);
    due("the first minute", x.enter(0, 0, 1), 1);
    due("coverage of the last minute", x.coverage(0, 10079), 1);
    due("coverage of the first minute", x.coverage(0, 0), 1);
    for (int i = 2; i < 20; i++) {
      due("enter", x.enter(0, 0, 10080), i);
    }
    raises("a 21st entry", STATE, () -> x.enter(0, 0, 10080));
    raises("a 21st entry, wrong span", ARGUMENT, () -> x.enter(0, 5, 5));
    due("coverage", x.coverage(0, 0), 19);
  }

  private static void removeEntry() {
    about("7 removeEntry");
    Timesheets x = withOne(1000);
    raises("no entry", INDEX, () -> x.removeEntry(0, 0));
    x.enter(0, 0, 10);
    x.enter(0, 100, 120);
    x.enter(0, 200, 230);
    raises("number 3", INDEX, () -> x.removeEntry(0, 3));
    for (int outside : OUTSIDE) {
      raises("number " + outside, INDEX, () -> x.removeEntry(0, outside));
      raises("employee " + outside, INDEX, () -> x.removeEntry(outside, 0));
    }
    due("removeEntry(0, 1)", x.removeEntry(0, 1), 2);
    due("the first stays", x.coverage(0, 5), 1);
    due("the second is gone", x.coverage(0, 110), 0);
    due("the third stays", x.coverage(0, 210), 1);
    due("the third has number 1", x.removeEntry(0, 1), 1);
    due("the third is gone", x.coverage(0, 210), 0);
    due("a new one", x.enter(0, 300, 310), 1);
    due("removeEntry(0, 0)", x.removeEntry(0, 0), 1);
    due("the new one stays", x.coverage(0, 305), 1);
    due("the last", x.removeEntry(0, 0), 0);
    due("stretches", x.stretches(0), 0);
  }

  private static void enterBreak() {
    about("8 enterBreak");
    Timesheets x = withOne(1000);
    x.enter(0, 0, 10080);
    for (int from : new int[] {-1, 10080, MIN, MAX}) {
      raises("from " + from, ARGUMENT, () -> x.enterBreak(0, from, 10080));
    }
    raises("to is from", ARGUMENT, () -> x.enterBreak(0, 10, 10));
    raises("to 10081", ARGUMENT, () -> x.enterBreak(0, 10, 10081));
    raises("no such employee, wrong span", INDEX, () -> x.enterBreak(1, 10, 10));
    due("nothing is entered", x.longestStretch(0), 10080);
    due("the last minute", x.enterBreak(0, 10079, 10080), 0);
    due("the first minute", x.enterBreak(0, 0, 1), 1);
    due("longestStretch", x.longestStretch(0), 10078);
    for (int i = 2; i < 20; i++) {
      due("enterBreak", x.enterBreak(0, 100, 200), i);
    }
    raises("a 21st break", STATE, () -> x.enterBreak(0, 0, 10080));
    raises("a 21st break, wrong span", ARGUMENT, () -> x.enterBreak(0, 5, 5));
    due("stretches", x.stretches(0), 2);
    due("breaks do not cover", x.coverage(0, 150), 1);
  }

  private static void removeBreak() {
    about("9 removeBreak");
    Timesheets x = withOne(1000);
    x.enter(0, 0, 1000);
    raises("no break", INDEX, () -> x.removeBreak(0, 0));
    x.enterBreak(0, 100, 110);
    x.enterBreak(0, 200, 220);
    x.enterBreak(0, 300, 340);
    raises("number 3", INDEX, () -> x.removeBreak(0, 3));
    for (int outside : OUTSIDE) {
      raises("number " + outside, INDEX, () -> x.removeBreak(0, outside));
      raises("employee " + outside, INDEX, () -> x.removeBreak(outside, 0));
    }
    due("worked before", x.workedOn(0, 0), 930);
    due("removeBreak(0, 0)", x.removeBreak(0, 0), 2);
    due("worked without the first", x.workedOn(0, 0), 940);
    due("removeBreak(0, 0), the second", x.removeBreak(0, 0), 1);
    due("worked without the second", x.workedOn(0, 0), 960);
    due("a new one", x.enterBreak(0, 500, 501), 1);
    due("the third", x.removeBreak(0, 0), 1);
    due("worked without the third", x.workedOn(0, 0), 999);
    due("the last", x.removeBreak(0, 0), 0);
    due("worked without breaks", x.workedOn(0, 0), 1000);
  }

  private static void addPremium() {
    about("10 addPremium");
    Timesheets x = withOne(8);
    x.enter(0, 0, 60);
    for (int days : new int[] {0, -1, 128, MIN, MAX}) {
      raises("days " + days, ARGUMENT, () -> x.addPremium(days, 0, 10, 60));
    }
    for (int minute : new int[] {-1, 1440, MIN, MAX}) {
      raises("from " + minute, ARGUMENT, () -> x.addPremium(1, minute, 10, 60));
      raises("to " + minute, ARGUMENT, () -> x.addPremium(1, 10, minute, 60));
    }
    for (int rate : new int[] {0, -1, 10001, MIN, MAX}) {
      raises("rate " + rate, ARGUMENT, () -> x.addPremium(1, 0, 10, rate));
    }
    due("nothing is added", x.premiumPay(0), 0);
    due("addPremium(127, 0, 1439, 1)", x.addPremium(127, 0, 1439, 1), 0);
    due("addPremium(1, 1439, 0, 10000)", x.addPremium(1, 1439, 0, 10000), 1);
    for (int i = 2; i < 6; i++) {
      due("addPremium", x.addPremium(2, 0, 0, i), i);
    }
    raises("a seventh", STATE, () -> x.addPremium(1, 0, 10, 60));
    raises("a seventh with no day", ARGUMENT, () -> x.addPremium(0, 0, 10, 60));
    raises("a seventh with no rate", ARGUMENT, () -> x.addPremium(1, 0, 10, 0));
    due("premiumPay", x.premiumPay(0), 1);
  }

  private static void removePremium() {
    about("11 removePremium");
    Timesheets x = withOne(8);
    x.enter(0, 0, 60);
    raises("no premium", INDEX, () -> x.removePremium(0));
    x.addPremium(1, 0, 60, 300);
    x.addPremium(1, 0, 60, 100);
    x.addPremium(1, 0, 60, 200);
    raises("number 3", INDEX, () -> x.removePremium(3));
    for (int outside : OUTSIDE) {
      raises("number " + outside, INDEX, () -> x.removePremium(outside));
    }
    due("the greatest", x.premiumPay(0), 300);
    due("removePremium(0)", x.removePremium(0), 2);
    due("the greatest of the rest", x.premiumPay(0), 200);
    due("removePremium(1)", x.removePremium(1), 1);
    due("the last one", x.premiumPay(0), 100);
    due("a new one", x.addPremium(1, 0, 60, 400), 1);
    due("removePremium(0) again", x.removePremium(0), 1);
    due("the new one", x.premiumPay(0), 400);
    due("none is left", x.removePremium(0), 0);
    due("no premium pay", x.premiumPay(0), 0);
  }

  private static void closeWeek() {
    about("12 closeWeek");
    Timesheets x = withOne(1200);
    x.hire(600);
    raises("an empty week", STATE, () -> x.closeWeek(0));
    raises("no such employee", INDEX, () -> x.closeWeek(2));
    raises("employee -1", INDEX, () -> x.closeWeek(-1));
    x.enterBreak(0, 0, 30);
    raises("a week with a break alone", STATE, () -> x.closeWeek(0));
    x.enter(0, 0, 90);
    x.enter(1, 0, 60);
    x.addPremium(127, 0, 0, 60);
    due("the pay of the week", x.pay(0), 1260);
    due("closeWeek(0)", x.closeWeek(0), 1260);
    due("earned", x.earned(0), 1260);
    due("pay of the next week", x.pay(0), 0);
    due("stretches of the next week", x.stretches(0), 0);
    raises("the entries are gone", INDEX, () -> x.removeEntry(0, 0));
    raises("the breaks are gone", INDEX, () -> x.removeBreak(0, 0));
    raises("the next week is empty", STATE, () -> x.closeWeek(0));
    due("the other one's week is open", x.pay(1), 660);
    due("the other one has no closed week", x.closedWeeks(1), 0);
    x.punch(0, 0, false);
    due("a punch alone", x.closeWeek(0), 0);
    due("closedWeeks", x.closedWeeks(0), 2);
    raises("the punches are gone", ELEMENT, () -> x.removePunch(0, 0) ? 1 : 0);
    x.enter(0, 0, 60);
    due("premiums stay", x.closeWeek(0), 1260);
    due("earned in all weeks", x.earned(0), 2520);
  }

  private static void numbersKept() {
    about("13 employees");
    Timesheets x = new Timesheets();
    for (int i = 0; i < 6; i++) {
      due("employees", x.employees(), i);
      x.hire(100);
    }
    due("employees", x.employees(), 6);

    about("14 closedWeeks");
    raises("no such employee", INDEX, () -> x.closedWeeks(6));
    raises("employee -1", INDEX, () -> x.closedWeeks(-1));
    for (int i = 0; i < 5; i++) {
      due("closedWeeks(3)", x.closedWeeks(3), i);
      x.enter(3, 0, 60);
      x.closeWeek(3);
    }
    due("closedWeeks(3)", x.closedWeeks(3), 5);
    due("closedWeeks(2)", x.closedWeeks(2), 0);

    about("15 earned");
    raises("no such employee", INDEX, () -> x.earned(6));
    raises("employee -1", INDEX, () -> x.earned(-1));
    due("earned(3)", x.earned(3), 500);
    due("earned(2)", x.earned(2), 0);
    x.enter(3, 0, 60);
    due("the present week is not earned yet", x.earned(3), 500);
  }

  private static void earnedPastAnInt() {
    about("15 earned");
    Timesheets x = withOne(100000);
    x.addPremium(127, 0, 0, 10000);
    long sum = 0;
    for (int i = 0; i < 150; i++) {
      x.enter(0, 0, 10080);
      sum += x.closeWeek(0);
    }
    due("earned", x.earned(0), sum);
    due("earned is more than an int holds", sum > Integer.MAX_VALUE ? 1 : 0, 1);
  }

  private static void shift(Timesheets x, int number, int begin, int end) {
    due("shiftBegin " + number, x.shiftBegin(0, number), begin);
    due("shiftEnd " + number, x.shiftEnd(0, number), end);
  }

  private static void shiftsInOrder() {
    about("16 to 19 shifts");
    Timesheets x = withOne(1000);
    x.punch(0, 3000, false);
    x.punch(0, 2500, true);
    due("shifts", x.shifts(0), 1);
    due("repairedShifts", x.repairedShifts(0), 0);
    shift(x, 0, 2500, 3000);
    x.punch(0, 1000, true);
    due("shifts", x.shifts(0), 2);
    due("repairedShifts", x.repairedShifts(0), 1);
    shift(x, 0, 1000, 1480);
    shift(x, 1, 2500, 3000);
    x.punch(0, 1400, true);
    shift(x, 0, 1000, 1400);
    shift(x, 1, 1400, 1880);
    x.punch(0, 4000, false);
    shift(x, 3, 3520, 4000);
    x.punch(0, 4100, false);
    shift(x, 4, 4000, 4100);
    due("shifts", x.shifts(0), 5);
    due("repairedShifts", x.repairedShifts(0), 4);
    raises("shiftBegin 5", INDEX, () -> x.shiftBegin(0, 5));
    raises("shiftEnd 5", INDEX, () -> x.shiftEnd(0, 5));
    for (int outside : OUTSIDE) {
      raises("shiftBegin " + outside, INDEX, () -> x.shiftBegin(0, outside));
      raises("shiftEnd " + outside, INDEX, () -> x.shiftEnd(0, outside));
      raises("shifts of employee " + outside, INDEX, () -> x.shifts(outside));
      raises("shiftBegin of employee " + outside, INDEX, () -> x.shiftBegin(outside, 0));
      raises("shiftEnd of employee " + outside, INDEX, () -> x.shiftEnd(outside, 0));
      raises("repairedShifts of employee " + outside, INDEX, () -> x.repairedShifts(outside));
    }
    raises("shifts of nobody", INDEX, () -> x.shifts(1));
    raises("shiftBegin of nobody", INDEX, () -> x.shiftBegin(1, 0));
    raises("shiftEnd of nobody", INDEX, () -> x.shiftEnd(1, 0));
    raises("repairedShifts of nobody", INDEX, () -> x.repairedShifts(1));
  }

  private static void shiftsAtTheEdges() {
    about("16 to 19 shifts");
    Timesheets x = withOne(1000);
    x.punch(0, 0, false);
    x.punch(0, 300, false);
    x.punch(0, 9700, true);
    x.punch(0, 10080, true);
    due("shifts", x.shifts(0), 4);
    due("repairedShifts", x.repairedShifts(0), 4);
    shift(x, 0, 0, 0);
    shift(x, 1, 0, 300);
    shift(x, 2, 9700, 10080);
    shift(x, 3, 10080, 10080);
    due("worked on day 0", x.workedOn(0, 0), 300);
    due("stretches", x.stretches(0), 2);
    Timesheets w = withOne(1000);
    w.punch(0, 100, false);
    w.punch(0, 200, false);
    shift(w, 0, 0, 100);
    shift(w, 1, 100, 200);
    Timesheets y = withOne(1000);
    y.punch(0, 480, false);
    shift(y, 0, 0, 480);
    y.punch(0, 9600, true);
    shift(y, 1, 9600, 10080);
    y.removePunch(0, 480);
    y.punch(0, 479, false);
    shift(y, 0, 0, 479);
    y.removePunch(0, 479);
    y.punch(0, 481, false);
    shift(y, 0, 1, 481);
    y.removePunch(0, 9600);
    y.punch(0, 9601, true);
    shift(y, 1, 9601, 10080);
    y.punch(0, 9599, true);
    shift(y, 1, 9599, 9601);
  }

  private static void fortyShifts() {
    about("16 shifts");
    Timesheets x = withOne(1000);
    for (int i = 0; i < 40; i++) {
      x.punch(0, 100 + i * 10, true);
      due("shifts", x.shifts(0), i + 1);
    }
    due("repairedShifts", x.repairedShifts(0), 40);
    shift(x, 0, 100, 110);
    shift(x, 39, 490, 970);
    due("one stretch", x.stretches(0), 1);
    Timesheets y = withOne(1000);
    for (int i = 0; i < 40; i++) {
      y.punch(0, 100 + i * 10, i % 2 == 0);
    }
    due("shifts of pairs", y.shifts(0), 20);
    due("repairedShifts of pairs", y.repairedShifts(0), 0);
    due("stretches of pairs", y.stretches(0), 20);
  }

  private static void coverage() {
    about("20 coverage");
    Timesheets x = withOne(1000);
    x.punch(0, 100, true);
    x.punch(0, 200, false);
    x.enter(0, 150, 250);
    x.enter(0, 199, 201);
    x.enterBreak(0, 0, 10080);
    due("coverage 99", x.coverage(0, 99), 0);
    due("coverage 100", x.coverage(0, 100), 1);
    due("coverage 149", x.coverage(0, 149), 1);
    due("coverage 150", x.coverage(0, 150), 2);
    due("coverage 199", x.coverage(0, 199), 3);
    due("coverage 200", x.coverage(0, 200), 2);
    due("coverage 249", x.coverage(0, 249), 1);
    due("coverage 250", x.coverage(0, 250), 0);
    due("coverage 0", x.coverage(0, 0), 0);
    due("coverage 10079", x.coverage(0, 10079), 0);
    for (int minute : new int[] {-1, 10080, MIN, MAX}) {
      raises("minute " + minute, ARGUMENT, () -> x.coverage(0, minute));
      raises("no such employee, minute " + minute, INDEX, () -> x.coverage(1, minute));
    }
    raises("no such employee", INDEX, () -> x.coverage(-1, 0));
  }

  private static void overlap() {
    about("21 overlap");
    Timesheets x = withOne(1000);
    due("nothing", x.overlap(0), 0);
    x.enter(0, 100, 200);
    x.enter(0, 200, 300);
    due("side by side", x.overlap(0), 0);
    x.enter(0, 150, 250);
    due("one over both", x.overlap(0), 100);
    x.enter(0, 190, 210);
    due("three times is counted once", x.overlap(0), 100);
    x.enterBreak(0, 0, 175);
    due("breaks do not count", x.overlap(0), 100);
    x.punch(0, 290, true);
    due("a repaired shift", x.overlap(0), 110);
    x.enter(0, 0, 10080);
    due("the whole week", x.overlap(0), 670);
    x.enter(0, 0, 10080);
    due("the whole week twice", x.overlap(0), 10080);
    raises("no such employee", INDEX, () -> x.overlap(1));
    raises("employee -1", INDEX, () -> x.overlap(-1));
  }

  private static void workedOn() {
    about("22 workedOn");
    Timesheets x = withOne(1000);
    x.enter(0, at(0, 20, 0), at(1, 6, 0));
    x.enter(0, at(0, 22, 0), at(0, 23, 0));
    due("day 0", x.workedOn(0, 0), 240);
    due("day 1", x.workedOn(0, 1), 360);
    due("day 2", x.workedOn(0, 2), 0);
    x.enterBreak(0, at(0, 23, 30), at(1, 0, 15));
    due("day 0 less the break", x.workedOn(0, 0), 210);
    due("day 1 less the break", x.workedOn(0, 1), 345);
    x.enter(0, 0, 10080);
    due("the last day, the automatic break counts", x.workedOn(0, 6), 1440);
    for (int day : new int[] {-1, 7, MIN, MAX}) {
      raises("day " + day, ARGUMENT, () -> x.workedOn(0, day));
      raises("no such employee, day " + day, INDEX, () -> x.workedOn(1, day));
    }
    raises("no such employee", INDEX, () -> x.workedOn(-1, 0));
  }

  private static void stretches() {
    about("23 and 24 stretches");
    Timesheets x = withOne(1000);
    due("none", x.stretches(0), 0);
    due("longest of none", x.longestStretch(0), 0);
    x.enter(0, 1000, 1100);
    x.enter(0, 1101, 1200);
    due("two", x.stretches(0), 2);
    due("the longest of two", x.longestStretch(0), 100);
    x.enter(0, 1100, 1101);
    due("one", x.stretches(0), 1);
    due("the longest is whole", x.longestStretch(0), 200);
    x.enter(0, 1150, 1700);
    due("over midnight", x.stretches(0), 1);
    due("over midnight, the automatic break counts", x.longestStretch(0), 700);
    x.enterBreak(0, 1400, 1500);
    due("a break parts it", x.stretches(0), 2);
    due("the longest of the parts", x.longestStretch(0), 400);
    x.enterBreak(0, 1000, 1399);
    due("one minute is left in front", x.stretches(0), 2);
    x.enterBreak(0, 1399, 1400);
    due("none is left in front", x.stretches(0), 1);
    due("the longest left", x.longestStretch(0), 200);
    x.enter(0, 0, 1);
    x.enter(0, 10079, 10080);
    due("the ends of the week", x.stretches(0), 3);
    raises("stretches of nobody", INDEX, () -> x.stretches(1));
    raises("stretches of -1", INDEX, () -> x.stretches(-1));
    raises("longestStretch of nobody", INDEX, () -> x.longestStretch(1));
    raises("longestStretch of -1", INDEX, () -> x.longestStretch(-1));
  }

  private static void asMuchAsMayBe() {
    about("23 stretches");
    Timesheets x = withOne(1000);
    for (int i = 0; i < 20; i++) {
      int begin = 500 * i;
      x.punch(0, begin, true);
      x.punch(0, begin + 100, false);
      x.enter(0, begin + 102, begin + 495);
      x.enterBreak(0, begin + 50, begin + 51);
    }
    due("stretches", x.stretches(0), 60);
    due("longestStretch", x.longestStretch(0), 393);
    due("shifts", x.shifts(0), 20);
    due("overlap", x.overlap(0), 0);
    int worked = 0;
    int paid = 0;
    for (int day = 0; day < 7; day++) {
      worked += x.workedOn(0, day);
      for (int category = REGULAR; category <= DOUBLE; category++) {
        paid += x.minutes(0, day, category);
      }
    }
    due("worked minutes", worked, 20 * 492);
    due("paid minutes", paid, 20 * 462);
    due("the last paid minute", x.category(0, 9500 + 494), DOUBLE);
    raises("a 41st punch", STATE, () -> x.punch(0, 10080, true));
    raises("a 21st entry", STATE, () -> x.enter(0, 0, 1));
    raises("a 21st break", STATE, () -> x.enterBreak(0, 0, 1));
  }

  private static void automaticBreak() {
    about("25 category");
    for (int length : new int[] {359, 360, 361, 370, 389, 390, 391}) {
      Timesheets x = withOne(1000);
      x.enter(0, 100, 100 + length);
      due("paid minutes of " + length, x.minutes(0, 0, REGULAR), Math.min(length, 360) + Math.max(length - 390, 0));
      due("the 360th of " + length, x.category(0, 459), length >= 360 ? REGULAR : NONE);
      due("the 361st of " + length, x.category(0, 460), NONE);
      due("the 390th of " + length, x.category(0, 489), NONE);
      due("the 391st of " + length, x.category(0, 490), length >= 391 ? REGULAR : NONE);
    }
    Timesheets x = withOne(1000);
    x.enter(0, 0, 1000);
    due("there is only one automatic break", x.category(0, 760), DOUBLE);
    x.enterBreak(0, 360, 361);
    due("a new stretch begins after a break", x.category(0, 361), REGULAR);
    due("its break comes later", x.category(0, 361 + 360), NONE);
    due("its break ends", x.category(0, 361 + 390), DOUBLE);
  }

  private static void categoriesOfDays() {
    about("25 category");
    Timesheets x = withOne(1000);
    x.enter(0, 0, 240);
    x.enter(0, 300, 540);
    x.enter(0, 600, 841);
    due("the first minute", x.category(0, 0), REGULAR);
    due("not worked", x.category(0, 240), NONE);
    due("the 480th", x.category(0, 539), REGULAR);
    due("the 481st", x.category(0, 600), OVERTIME);
    due("the 720th", x.category(0, 839), OVERTIME);
    due("the 721st", x.category(0, 840), DOUBLE);
    due("after the last", x.category(0, 841), NONE);
    x.enter(0, 1430, 1450);
    due("the last of the day", x.category(0, 1439), DOUBLE);
    due("the first of the next day", x.category(0, 1440), REGULAR);
    for (int minute : new int[] {-1, 10080, MIN, MAX}) {
      raises("minute " + minute, ARGUMENT, () -> x.category(0, minute));
      raises("no such employee, minute " + minute, INDEX, () -> x.category(1, minute));
    }
    raises("no such employee", INDEX, () -> x.category(-1, 0));
    due("the last minute of the week", x.category(0, 10079), NONE);
  }

  /** 240 minutes twice a day, with a pause between them, on the days from first to last. */
  private static void fillDays(Timesheets x, int first, int last) {
    for (int day = first; day <= last; day++) {
      x.enter(0, at(day, 6, 0), at(day, 10, 0));
      x.enter(0, at(day, 11, 0), at(day, 15, 0));
    }
  }

  private static void categoriesOfTheWeek() {
    about("25 category");
    Timesheets x = withOne(1000);
    fillDays(x, 0, 4);
    due("the 2400th", x.category(0, at(4, 14, 59)), REGULAR);
    x.enter(0, at(6, 0, 0), at(6, 0, 1));
    due("the 2401st, the week is not full", x.category(0, at(6, 0, 0)), OVERTIME);
    x.removeEntry(0, 10);
    x.enter(0, at(3, 20, 0), at(3, 20, 1));
    due("overtime counts for the week too", x.category(0, at(4, 14, 59)), OVERTIME);
    due("the minute before it", x.category(0, at(4, 14, 58)), REGULAR);
    x.removeEntry(0, 10);
    x.enter(0, at(6, 0, 0), at(6, 5, 0));
    x.enter(0, at(6, 6, 0), at(6, 11, 0));
    x.enter(0, at(6, 12, 0), at(6, 17, 0));
    due("not full: the 480th of day 6", x.category(0, at(6, 8, 59)), OVERTIME);
    due("not full: the 481st of day 6", x.category(0, at(6, 9, 0)), OVERTIME);
    due("not full: the 720th of day 6", x.category(0, at(6, 13, 59)), OVERTIME);
    due("not full: the 721st of day 6", x.category(0, at(6, 14, 0)), DOUBLE);
    x.enter(0, at(5, 23, 59), at(6, 0, 0));
    due("full: the 480th of day 6", x.category(0, at(6, 8, 59)), OVERTIME);
    due("full: the 481st of day 6", x.category(0, at(6, 9, 0)), DOUBLE);
    due("full: day 5", x.category(0, at(5, 23, 59)), OVERTIME);
    x.enterBreak(0, at(2, 0, 0), at(3, 0, 0));
    due("day 2 is missing: the 481st of day 6", x.category(0, at(6, 9, 0)), OVERTIME);
  }

  private static void fullWeek() {
    about("25 category");
    Timesheets x = withOne(1000);
    for (int day = 0; day < 6; day++) {
      x.enter(0, at(day, 12, 0), at(day, 12, 1));
    }
    x.enter(0, at(6, 12, 0), at(6, 12, 10));
    due("day 6 of a full week", x.category(0, at(6, 12, 0)), OVERTIME);
    due("day 5 of a full week", x.category(0, at(5, 12, 0)), REGULAR);
    for (int day = 0; day < 6; day++) {
      x.enterBreak(0, at(day, 12, 0), at(day, 12, 1));
      due("day " + day + " is missing", x.category(0, at(6, 12, 0)), REGULAR);
      x.removeBreak(0, 0);
    }
    due("full again", x.category(0, at(6, 12, 9)), OVERTIME);
    // Day 1 is worked, but its only worked minutes are an automatic break.
    x.removeEntry(0, 1);
    x.enter(0, at(0, 18, 0), at(1, 0, 30));
    due("day 1 is worked", x.workedOn(0, 1), 30);
    due("day 1 is not paid", x.category(0, at(6, 12, 0)), REGULAR);
    x.enter(0, at(1, 0, 30), at(1, 0, 31));
    due("day 1 is paid", x.category(0, at(6, 12, 0)), OVERTIME);
  }

  private static void minutes() {
    about("26 minutes");
    Timesheets x = withOne(1000);
    x.enter(0, 0, 1440);
    due("REGULAR", x.minutes(0, 0, REGULAR), 480);
    due("OVERTIME", x.minutes(0, 0, OVERTIME), 240);
    due("DOUBLE", x.minutes(0, 0, DOUBLE), 690);
    due("another day", x.minutes(0, 1, REGULAR), 0);
    x.enter(0, at(6, 23, 0), 10080);
    due("the last day", x.minutes(0, 6, REGULAR), 60);
    Timesheets y = withOne(1000);
    y.enter(0, at(2, 22, 0), at(3, 2, 0));
    due("before midnight", y.minutes(0, 2, REGULAR), 120);
    due("after midnight", y.minutes(0, 3, REGULAR), 120);
    for (int day : new int[] {-1, 7, MIN, MAX}) {
      raises("day " + day, ARGUMENT, () -> x.minutes(0, day, REGULAR));
      raises("no such employee, day " + day, INDEX, () -> x.minutes(1, day, REGULAR));
    }
    for (int category : new int[] {NONE, 3, MIN, MAX}) {
      raises("category " + category, ARGUMENT, () -> x.minutes(0, 0, category));
      raises("no such employee, category " + category, INDEX, () -> x.minutes(-1, 0, category));
    }
  }

  private static void quarters() {
    about("27 quarters");
    Timesheets x = withOne(1000);
    x.enter(0, at(0, 0, 0), at(0, 0, 7));
    due("7 minutes", x.quarters(0, 0, REGULAR), 0);
    x.enter(0, at(0, 0, 7), at(0, 0, 8));
    due("8 minutes", x.quarters(0, 0, REGULAR), 1);
    x.enter(0, at(1, 0, 0), at(1, 0, 23));
    due("8 and 23: day 0, the earlier of the same r", x.quarters(0, 0, REGULAR), 1);
    due("8 and 23: day 1", x.quarters(0, 1, REGULAR), 1);
    x.enter(0, at(1, 0, 23), at(1, 0, 24));
    due("8 and 24: day 0", x.quarters(0, 0, REGULAR), 0);
    due("8 and 24: day 1, the greater r", x.quarters(0, 1, REGULAR), 2);
    x.enter(0, at(4, 0, 0), at(4, 0, 14));
    due("8, 24 and 14: day 4, the greatest r", x.quarters(0, 4, REGULAR), 1);
    due("8, 24 and 14: day 1", x.quarters(0, 1, REGULAR), 2);
    due("8, 24 and 14: day 0", x.quarters(0, 0, REGULAR), 0);
    due("a day without minutes", x.quarters(0, 2, REGULAR), 0);
    x.enter(0, at(6, 0, 0), at(6, 23, 50));
    due("the categories are rounded apart: REGULAR", x.quarters(0, 6, REGULAR), 32);
    due("OVERTIME", x.quarters(0, 6, OVERTIME), 16);
    due("DOUBLE, 680 minutes", x.quarters(0, 6, DOUBLE), 45);
    for (int day : new int[] {-1, 7, MIN, MAX}) {
      raises("day " + day, ARGUMENT, () -> x.quarters(0, day, REGULAR));
      raises("no such employee, day " + day, INDEX, () -> x.quarters(1, day, REGULAR));
    }
    for (int category : new int[] {NONE, 3, MIN, MAX}) {
      raises("category " + category, ARGUMENT, () -> x.quarters(0, 0, category));
      raises("no such employee, category " + category, INDEX, () -> x.quarters(-1, 0, category));
    }
  }

  private static void sevenLeftQuarters() {
    about("27 quarters");
    Timesheets x = withOne(1000);
    for (int day = 0; day < 7; day++) {
      x.enter(0, day * 1440, day * 1440 + 14);
    }
    x.enterBreak(0, at(5, 0, 0), at(6, 0, 0));
    for (int day = 0; day < 7; day++) {
      due("day " + day, x.quarters(0, day, REGULAR), day == 5 ? 0 : 1);
    }
    for (int day = 0; day < 7; day++) {
      x.enterBreak(0, day * 1440, day * 1440 + 11);
    }
    due("six times 3 minutes: day 0", x.quarters(0, 0, REGULAR), 1);
    due("six times 3 minutes: day 1", x.quarters(0, 1, REGULAR), 0);
  }

  private static int premiumPayOf(int days, int from, int to, int day, int begin, int end) {
    Timesheets x = withOne(1);
    x.enter(0, day * 1440 + begin, day * 1440 + end);
    x.addPremium(days, from, to, 60);
    return x.premiumPay(0);
  }

  private static void premiumSpans() {
    about("28 premiumPay");
    due("inside", premiumPayOf(1, 100, 200, 0, 100, 200), 100);
    due("the edges of the span", premiumPayOf(1, 100, 200, 0, 99, 201), 100);
    due("another day", premiumPayOf(1, 100, 200, 1, 100, 200), 0);
    due("the day of the bit", premiumPayOf(64, 100, 200, 6, 100, 200), 100);
    due("all days but one", premiumPayOf(127 - 8, 100, 200, 3, 100, 200), 0);
    due("over midnight, the evening", premiumPayOf(1, 1300, 100, 0, 1200, 1440), 140);
    due("over midnight, the morning of the same day", premiumPayOf(1, 1300, 100, 0, 0, 200), 100);
    due("over midnight, the morning of the next day", premiumPayOf(1, 1300, 100, 1, 0, 200), 0);
    due("to midnight", premiumPayOf(1, 1300, 0, 0, 1200, 1440), 140);
    due("to midnight, the morning", premiumPayOf(1, 1300, 0, 0, 0, 100), 0);
    due("all minutes", premiumPayOf(1, 700, 700, 0, 500, 800), 300);
    due("all minutes from 0", premiumPayOf(1, 0, 0, 0, 1340, 1440), 100);
    due("the last minute alone is left out", premiumPayOf(1, 0, 1439, 0, 1340, 1440), 99);
    due("a span over midnight", premiumPayOf(1, 0, 0, 0, 1340, 1540), 100);
  }

  private static void premiumPay() {
    about("28 premiumPay");
    Timesheets x = withOne(1);
    x.enter(0, 0, 400);
    x.addPremium(127, 0, 0, 60);
    due("the automatic break is not paid", x.premiumPay(0), 370);
    x.addPremium(1, 100, 200, 120);
    x.addPremium(1, 150, 250, 90);
    due("the greatest counts, not the sum", x.premiumPay(0), 370 + 100 + 25);
    x.enterBreak(0, 100, 110);
    due("a break is not paid, the automatic one falls away", x.premiumPay(0), 390 + 90 + 25);
    x.enter(0, 0, 390);
    due("what is covered twice is paid once", x.premiumPay(0), 390 + 90 + 25);
    Timesheets y = withOne(1);
    y.enter(0, 0, 29);
    y.addPremium(127, 0, 0, 1);
    due("29 sixtieths", y.premiumPay(0), 0);
    y.enter(0, 29, 30);
    due("half a cent", y.premiumPay(0), 1);
    y.enter(0, 30, 89);
    due("89 sixtieths", y.premiumPay(0), 1);
    y.enter(0, 100, 101);
    due("a cent and a half", y.premiumPay(0), 2);
    due("no pay but the premium and 6 quarters", y.pay(0), 2 + 2);
    raises("no such employee", INDEX, () -> y.premiumPay(1));
    raises("employee -1", INDEX, () -> y.premiumPay(-1));
    Timesheets z = withOne(1);
    z.hire(1);
    z.enter(0, 0, 60);
    z.enter(1, 60, 120);
    z.addPremium(1, 0, 120, 50);
    due("premiums hold for employee 0", z.premiumPay(0), 50);
    due("premiums hold for employee 1", z.premiumPay(1), 50);
  }

  private static void pay() {
    about("29 pay");
    Timesheets x = withOne(1000);
    due("an empty week", x.pay(0), 0);
    x.enter(0, 0, 60);
    due("an hour", x.pay(0), 1000);
    x.enter(0, 0, 1440);
    due("8 hours, 4 hours and 46 quarters", x.pay(0), 8000 + 6000 + 23000);
    x.addPremium(1, 0, 10, 60);
    due("with the premium", x.pay(0), 37010);
    raises("no such employee", INDEX, () -> x.pay(1));
    raises("employee -1", INDEX, () -> x.pay(-1));
    Timesheets y = withOne(1);
    y.enter(0, 0, 15);
    due("a quarter of a cent", y.pay(0), 0);
    y.enter(0, 15, 30);
    due("half a cent", y.pay(0), 1);
    y.addPremium(1, 0, 0, 1);
    due("both halves are rounded up", y.pay(0), 2);
    y.removePremium(0);
    y.enter(0, 0, 510 - 15);
    due("31 quarters", y.pay(0), 8);
    y.enter(0, 510 - 15, 510 + 15);
    due("32 quarters and one of overtime: 67 eighths", y.pay(0), 8);
    y.enter(0, 510 + 15, 510 + 30);
    due("32 quarters and two of overtime: 70 eighths", y.pay(0), 9);
    Timesheets z = withOne(100000);
    z.enter(0, 0, 10080);
    z.addPremium(127, 0, 0, 10000);
    // 10050 paid minutes: 64 quarters REGULAR, 256 OVERTIME, 350 DOUBLE.
    due("the greatest premium pay", z.premiumPay(0), 1675000);
    due("the greatest pay", z.pay(0), 28700000 + 1675000);
  }

  public static void main(String[] args) {
    newObject();
    hire();
    setWage();
    punch();
    removePunch();
    enter();
    removeEntry();
    enterBreak();
    removeBreak();
    addPremium();
    removePremium();
    closeWeek();
    numbersKept();
    earnedPastAnInt();
    shiftsInOrder();
    shiftsAtTheEdges();
    fortyShifts();
    coverage();
    overlap();
    workedOn();
    stretches();
    asMuchAsMayBe();
    automaticBreak();
    categoriesOfDays();
    categoriesOfTheWeek();
    fullWeek();
    minutes();
    quarters();
    sevenLeftQuarters();
    premiumSpans();
    premiumPay();
    pay();
    finish();
  }
}
