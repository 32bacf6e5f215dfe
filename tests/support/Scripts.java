import java.lang.reflect.InvocationTargetException;
import java.lang.reflect.Method;
import java.util.ArrayList;
import java.util.HashMap;
import java.util.List;
import java.util.Map;

/**
 * Plays scripts of calls, each on a new object, and counts the scripts of which every answer is due.
 *
 * A script runs line by line:
 *   call(arguments) -> answer              the answer of a call, or throws.TheException
 *   3x call(arguments) -> answer           the same several times; the answer * is any but an exception
 *   type TEXT                              feeds the characters of the text
 *   run TEXT -> answer                     feeds the text and calls execute
 *   line -> TEXT                           the output line, read to its end
 */
final class Scripts {
  /** What an object answers after its 512th call is free, so no script goes further. */
  private static final int MOST_CALLS = 512;
  private static final int MOST_TOLD = 40;

  private final String suite;
  private int passed = 0;
  private int failed = 0;
  private int told = 0;

  Scripts(String suite) {
    this.suite = suite;
  }

  /** The script holds on a new object. */
  void holds(String name, String script) {
    count(agrees(new Play(), name, script));
  }

  /** The check holds that a test has made by itself. */
  void holds(String name, boolean holds) {
    if (!holds) {
      tell(name, "does not hold");
    }
    count(holds);
  }

  /**
   * After the setup the lines answer as they say, and afterwards the object answers everything as if
   * they had not been called, but for those of WHAT_IS_KEPT that the differences name.
   */
  void leavesAsItWas(String name, String setup, String lines, String differences) {
    boolean holds = agrees(new Play(), name, setup + lines + "\n" + differences);
    Map<String, String> changed = new HashMap<>();
    for (String line : differences.isEmpty() ? new String[0] : differences.split("\n")) {
      changed.put(callOf(line), dueOf(line));
    }
    for (List<String> questions : Questions.ALL) {
      boolean isKept = questions == Questions.WHAT_IS_KEPT;
      holds = holds && staysAsItWas(name, setup, lines, questions, isKept ? changed : Map.of());
    }
    count(holds);
  }

  private boolean staysAsItWas(
      String name, String setup, String lines, List<String> questions, Map<String, String> changed) {
    Play without = new Play();
    Play with = new Play();
    boolean stays = agrees(without, name, setup) && agrees(with, name, setup + lines + "\n");
    for (String question : questions) {
      String before = without.answer(question);
      String due = changed.getOrDefault(question, before);
      String answer = with.answer(question);
      if (!answer.equals(due)) {
        tell(name, "after " + lines.replace("\n", ", ") + ": " + question + " answered " + answer
            + " and not " + due);
        stays = false;
      }
    }
    return stays;
  }

  private boolean agrees(Play play, String name, String script) {
    for (String line : script.isEmpty() ? new String[0] : script.split("\n")) {
      String wrong = play.wrongAnswerTo(line);
      if (wrong != null) {
        tell(name, line + " but answered " + wrong);
        return false;
      }
    }
    return true;
  }

  private void tell(String name, String what) {
    told++;
    if (told <= MOST_TOLD) {
      System.out.println("promise " + name + ": " + what);
    }
  }

  /** Tells how many scripts passed and failed, and ends the program with 1 if one failed. */
  void end() {
    System.out.println(suite + ": " + passed + " scripts passed, " + failed + " scripts failed");
    if (failed != 0) {
      System.exit(1);
    }
  }

  private void count(boolean holds) {
    if (holds) {
      passed++;
    } else {
      failed++;
    }
  }

  /** The line as often as told, with its number, from 0, in place of each "#". */
  static String counted(String line, int times) {
    StringBuilder lines = new StringBuilder();
    for (int index = 0; index < times; index++) {
      lines.append(line.replace("#", "" + index)).append('\n');
    }
    return lines.toString();
  }

  private static String callOf(String line) {
    return line.substring(0, line.lastIndexOf(" -> "));
  }

  private static String dueOf(String line) {
    return line.substring(line.lastIndexOf(" -> ") + " -> ".length());
  }

  /** One script on one new object. */
  private static final class Play {
    private final ScarecrowRegistry registry = new ScarecrowRegistry();
    private int calls = 0;

    /** Plays a line and returns the answer if it is not the one that is due, and otherwise null. */
    String wrongAnswerTo(String line) {
      if (line.startsWith("type ")) {
        type(line.substring("type ".length()));
        return null;
      }
      String call = callOf(line);
      String due = dueOf(line);
      int times = 1;
      if (Character.isDigit(call.charAt(0))) {
        int x = call.indexOf("x ");
        times = Integer.parseInt(call.substring(0, x));
        call = call.substring(x + 2);
      }
      for (int time = 0; time < times; time++) {
        String answer = answer(call);
        boolean isFree = due.equals("*") && !answer.startsWith("throws.");
        if (!isFree && !answer.equals(due)) {
          return answer;
        }
      }
      return null;
    }

    String answer(String call) {
      if (call.equals("line")) {
        return readLine();
      }
      if (call.startsWith("run ")) {
        type(call.substring("run ".length()));
        return answer("execute()");
      }
      try {
        return perform(call);
      } catch (ReflectiveOperationException e) {
        throw new IllegalStateException("the call cannot be read: " + call, e);
      }
    }

    private void type(String text) {
      for (char character : text.toCharArray()) {
        countCall("feed");
        registry.feed(character);
      }
    }

    private String readLine() {
      StringBuilder line = new StringBuilder();
      try {
        while (line.length() < 100) {
          countCall("lineCharacter");
          line.append(registry.lineCharacter(line.length()));
        }
      } catch (IndexOutOfBoundsException e) {
        return line.toString();
      }
      return "a line without an end";
    }

    private String perform(String call) throws ReflectiveOperationException {
      int open = call.indexOf('(');
      String name = call.substring(0, open);
      String inside = call.substring(open + 1, call.length() - 1);
      List<Object> arguments = new ArrayList<>();
      List<Class<?>> types = new ArrayList<>();
      for (String part : inside.isEmpty() ? new String[0] : inside.split(", ")) {
        if (name.equals("feed")) {
          types.add(char.class);
          arguments.add(part.startsWith("'") ? part.charAt(1) : (char) Integer.parseInt(part));
        } else if (part.equals("true") || part.equals("false")) {
          types.add(boolean.class);
          arguments.add(part.equals("true"));
        } else {
          types.add(int.class);
          arguments.add(Integer.parseInt(part));
        }
      }
      countCall(call);
      Method method = ScarecrowRegistry.class.getMethod(name, types.toArray(new Class<?>[0]));
      try {
        Object answer = method.invoke(registry, arguments.toArray());
        return answer instanceof Character ? "'" + answer + "'" : String.valueOf(answer);
      } catch (InvocationTargetException e) {
        return "throws." + e.getCause().getClass().getSimpleName();
      }
    }

    private void countCall(String call) {
      calls++;
      if (calls > MOST_CALLS) {
        throw new IllegalStateException("call " + calls + " of a script: " + call);
      }
    }
  }

  /**
   * What is asked after a refused call: everything that an object answers, in parts, each on an object
   * of its own, so that none is called too often and those that change something hide nothing.
   */
  private static final class Questions {
    static final List<String> WHAT_IS_KEPT = List.of(
        "line", "denial()", "denialDetail()", "denialCause()", "faultPosition()", "undoCount()");
    static final List<List<String>> ALL = List.of(
        ofScarecrows(), ofCertificates(), ofFields(), ofForecasts(), WHAT_IS_KEPT, ofTheText(),
        ofThePast(), ofTheSnapshot());

    private static List<String> ofScarecrows() {
      List<String> questions = new ArrayList<>(List.of("scarecrowCount()"));
      for (int scarecrow = 0; scarecrow <= 10; scarecrow++) {
        for (String name : List.of("fieldOf", "isRevoked", "isCertified", "isCertifiedByChains",
            "chainLength", "daysUntilUncertified", "scarecrowByCertificates")) {
          questions.add(name + "(" + scarecrow + ")");
        }
      }
      return questions;
    }

    private static List<String> ofCertificates() {
      List<String> questions = new ArrayList<>(
          List.of("certificateCount()", "inForceCount()", "meanDaysLeft()", "inForceShare()"));
      for (int certificate = 0; certificate <= 20; certificate++) {
        for (String name : List.of(
            "isByRegistry", "issuerOf", "subjectOf", "addressOf", "lastDayOf", "isInForce")) {
          questions.add(name + "(" + certificate + ")");
        }
      }
      return questions;
    }

    private static List<String> ofFields() {
      List<String> questions = new ArrayList<>(List.of("day()", "nextLook()", "guardedFields()",
          "guardedFieldsByScarecrows()", "totalGrains()", "eaten()", "sown()"));
      for (int field = 0; field < 16; field++) {
        for (String name : List.of("grains", "isGuarded", "scarecrowOn")) {
          questions.add(name + "(" + field + ")");
        }
      }
      return questions;
    }

    private static List<String> ofForecasts() {
      List<String> questions = new ArrayList<>();
      for (int days = 0; days <= 60; days++) {
        questions.add("predictEaten(" + days + ")");
      }
      return questions;
    }

    /** With a sign that no text has, the fault position tells what is in the buffer. */
    private static List<String> ofTheText() {
      return List.of("feed('#')", "execute()", "faultPosition()");
    }

    private static List<String> ofThePast() {
      List<String> questions = new ArrayList<>();
      for (int undone = 0; undone <= 8; undone++) {
        questions.add("undo()");
        questions.addAll(List.of("scarecrowCount()", "certificateCount()", "inForceCount()", "day()",
            "totalGrains()", "eaten()", "sown()", "predictEaten(60)", "writeFields()", "line"));
      }
      return questions;
    }

    private static List<String> ofTheSnapshot() {
      List<String> questions = new ArrayList<>(List.of("restoreSnapshot()", "undoCount()"));
      questions.addAll(ofScarecrows());
      questions.addAll(ofCertificates());
      questions.addAll(ofFields());
      return questions;
    }
  }
}
