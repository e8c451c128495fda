import java.io.IOException;
import java.nio.charset.StandardCharsets;
import java.nio.file.Files;
import java.nio.file.Path;

/** The example of README.md: its calls are these, and their answers are those that it tells. */
public final class ReadmeTest extends Checks {
  private static String example = "";

  /** The part of README.md between the first line of Java and the end of the example. */
  private static void readExample() throws IOException {
    String text = new String(Files.readAllBytes(Path.of("README.md")), StandardCharsets.UTF_8);
    int begin = text.indexOf("```java\n");
    int end = text.indexOf("\n```\n", begin);
    example = begin < 0 || end < 0 ? "" : text.substring(begin, end + 1);
  }

  /** The example has this call, and behind it a comment that begins with this answer. */
  private static void tells(String call, long got, String told, long want) {
    due(call, got, want);
    int begin = example.indexOf(call + ";");
    int end = example.indexOf("\n", begin);
    String line = begin < 0 || end < 0 ? "" : example.substring(begin, end);
    int comment = line.indexOf("// ");
    if (comment < 0 || !line.substring(comment + 3).startsWith(told)) {
      fail("README.md does not tell " + told + " of " + call);
    }
  }

  public static void main(String[] args) throws IOException {
    about("README.md");
    readExample();
    Timesheets x = new Timesheets();
    int ann = x.hire(2000);
    tells("x.hire(2000)", ann, "0", 0);
    tells("x.punch(ann, 540, true)", x.punch(ann, 540, true), "1 ", 1);
    tells("x.punch(ann, 1020, false)", x.punch(ann, 1020, false), "2 ", 2);
    tells("x.enterBreak(ann, 720, 750)", x.enterBreak(ann, 720, 750), "break 0", 0);
    tells("x.enter(ann, 1320, 1380)", x.enter(ann, 1320, 1380), "entry 0", 0);
    tells("x.addPremium(127, 1320, 360, 150)", x.addPremium(127, 1320, 360, 150), "premium 0", 0);
    tells("x.workedOn(ann, 0)", x.workedOn(ann, 0), "510", 510);
    tells("x.minutes(ann, 0, Timesheets.REGULAR)", x.minutes(ann, 0, REGULAR), "480", 480);
    tells("x.category(ann, 1379)", x.category(ann, 1379), "Timesheets.OVERTIME", OVERTIME);
    tells("x.quarters(ann, 0, Timesheets.OVERTIME)", x.quarters(ann, 0, OVERTIME), "2", 2);
    tells("x.premiumPay(ann)", x.premiumPay(ann), "150", 150);
    tells("x.pay(ann)", x.pay(ann), "17650", 17650);
    tells("x.closeWeek(ann)", x.closeWeek(ann), "17650", 17650);
    tells("x.earned(ann)", x.earned(ann), "17650", 17650);
    finish();
  }
}
