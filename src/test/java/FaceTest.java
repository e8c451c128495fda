import java.lang.reflect.Field;
import java.lang.reflect.Member;
import java.lang.reflect.Method;
import java.lang.reflect.Modifier;
import java.util.Arrays;
import java.util.TreeSet;

/** The public face of Timesheets is the document's, and nothing else of it can be seen from outside. */
public final class FaceTest {
  private static final String INDEX = "java.lang.IndexOutOfBoundsException";
  private static final String ARGUMENT = "java.lang.IllegalArgumentException";
  private static final String STATE = "java.lang.IllegalStateException";
  private static final String ELEMENT = "java.util.NoSuchElementException";

  private static final String[] METHODS = {
    "int hire(int) " + ARGUMENT + " " + STATE,
    "int setWage(int,int) " + INDEX + " " + ARGUMENT,
    "int punch(int,int,boolean) " + INDEX + " " + ARGUMENT + " " + STATE,
    "boolean removePunch(int,int) " + INDEX + " " + ELEMENT,
    "int enter(int,int,int) " + INDEX + " " + ARGUMENT + " " + STATE,
    "int removeEntry(int,int) " + INDEX,
    "int enterBreak(int,int,int) " + INDEX + " " + ARGUMENT + " " + STATE,
    "int removeBreak(int,int) " + INDEX,
    "int addPremium(int,int,int,int) " + ARGUMENT + " " + STATE,
    "int removePremium(int) " + INDEX,
    "int closeWeek(int) " + INDEX + " " + STATE,
    "int employees()",
    "int closedWeeks(int) " + INDEX,
    "long earned(int) " + INDEX,
    "int shifts(int) " + INDEX,
    "int shiftBegin(int,int) " + INDEX,
    "int shiftEnd(int,int) " + INDEX,
    "int repairedShifts(int) " + INDEX,
    "int coverage(int,int) " + INDEX + " " + ARGUMENT,
    "int overlap(int) " + INDEX,
    "int workedOn(int,int) " + INDEX + " " + ARGUMENT,
    "int stretches(int) " + INDEX,
    "int longestStretch(int) " + INDEX,
    "int category(int,int) " + INDEX + " " + ARGUMENT,
    "int minutes(int,int,int) " + INDEX + " " + ARGUMENT,
    "int quarters(int,int,int) " + INDEX + " " + ARGUMENT,
    "int premiumPay(int) " + INDEX,
    "int pay(int) " + INDEX,
  };

  private static final String[] CONSTANTS = {"NONE = -1", "REGULAR = 0", "OVERTIME = 1", "DOUBLE = 2"};

  private static int wrong = 0;

  private static void due(String what, Object got, Object want) {
    if (!got.equals(want)) {
      wrong++;
      System.out.println(what + " is\n  " + got + ", due is\n  " + want);
    }
  }

  private static boolean isHidden(Member member) {
    return Modifier.isPrivate(member.getModifiers()) || member.isSynthetic();
  }

  private static String describe(Method method) {
    StringBuilder text = new StringBuilder();
    text.append(method.getReturnType().getName()).append(' ').append(method.getName()).append('(');
    Class<?>[] types = method.getParameterTypes();
    for (int i = 0; i < types.length; i++) {
      text.append(i == 0 ? "" : ",").append(types[i].getName());
    }
    text.append(')');
    for (Class<?> thrown : method.getExceptionTypes()) {
      text.append(' ').append(thrown.getName());
    }
    return text.toString();
  }

  public static void main(String[] args) throws IllegalAccessException {
    TreeSet<String> methods = new TreeSet<>();
    TreeSet<String> hidden = new TreeSet<>();
    TreeSet<String> names = new TreeSet<>();
    for (Method method : Timesheets.class.getDeclaredMethods()) {
      if (isHidden(method)) {
        hidden.add(method.getName());
      } else {
        methods.add(describe(method));
        names.add(method.getName());
        due("the modifiers of " + method.getName(), Modifier.toString(method.getModifiers()), "public");
      }
    }
    due("the methods", methods, new TreeSet<>(Arrays.asList(METHODS)));
    hidden.retainAll(names);
    due("private methods with public names", hidden, new TreeSet<String>());

    TreeSet<String> constants = new TreeSet<>();
    for (Field field : Timesheets.class.getDeclaredFields()) {
      if (!isHidden(field)) {
        due("the modifiers of " + field.getName(), Modifier.toString(field.getModifiers()), "public static final");
        due("the type of " + field.getName(), field.getType(), int.class);
        constants.add(field.getName() + " = " + field.get(null));
      }
    }
    due("the constants", constants, new TreeSet<>(Arrays.asList(CONSTANTS)));

    due("the number of constructors", Timesheets.class.getDeclaredConstructors().length, 1);
    due("the number of public constructors", Timesheets.class.getConstructors().length, 1);
    due("the modifiers of the class", Modifier.toString(Timesheets.class.getModifiers()), "public final");
    System.out.println(wrong == 0 ? "the face is as due" : wrong + " things are not as due");
    if (wrong != 0) {
      System.exit(1);
    }
  }
}
