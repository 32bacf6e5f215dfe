import java.lang.reflect.InvocationTargetException;
import java.lang.reflect.Method;
import java.util.ArrayDeque;
import java.util.ArrayList;
import java.util.Arrays;
import java.util.Comparator;
import java.util.Deque;
import java.util.HashSet;
import java.util.List;
import java.util.NoSuchElementException;
import java.util.Random;
import java.util.Set;
import java.util.TreeSet;
import java.util.regex.Matcher;
import java.util.regex.Pattern;

/**
 * Long runs of calls, the same in every run of the test, on the class and on a model that was written
 * from the document in other ways (regular expressions, recursion, deep copies). Every answer and every
 * exception must be the same.
 */
public final class ModelRuns {
  private static final int RUNS = 3000;
  private static final int CALLS = 512;
  private static final int MOST_TOLD = 5;

  private static final List<String> CHANGES = List.of(
      "register", "register", "register", "move", "move", "setRevoked", "setRevoked", "issueByRegistry",
      "issueByRegistry", "issue", "issue", "issue", "issue", "withdraw", "sow", "pass", "pass", "undo",
      "saveSnapshot", "restoreSnapshot", "TEXT", "TEXT", "TEXT");
  private static final List<String> REMOVALS = List.of(
      "move", "setRevoked", "withdraw", "pass", "undo", "restoreSnapshot");
  private static final List<Method> FACE = face();

  public static void main(String[] args) throws ReflectiveOperationException {
    int wrong = 0;
    for (int run = 0; run < RUNS && wrong < MOST_TOLD; run++) {
      if (!new OneRun(run).agrees()) {
        wrong++;
      }
    }
    System.out.println(wrong == 0 ? RUNS + " runs agree with the model" : wrong + " runs do not agree");
    if (wrong != 0) {
      System.exit(1);
    }
  }

  private static List<Method> face() {
    Method[] methods = ScarecrowRegistry.class.getDeclaredMethods();
    List<Method> face = new ArrayList<>();
    for (Method method : methods) {
      if (java.lang.reflect.Modifier.isPublic(method.getModifiers())) {
        face.add(method);
      }
    }
    face.sort(Comparator.comparing(Method::getName));
    return face;
  }

  private static Method faceMethod(String name) {
    for (Method method : FACE) {
      if (method.getName().equals(name)) {
        return method;
      }
    }
    throw new IllegalStateException(name);
  }

  /** One run: a new object and a new model, and calls that are drawn by the run's number. */
  private static final class OneRun {
    private final int number;
    private final Random random;
    private final ScarecrowRegistry registry = new ScarecrowRegistry();
    private final Model model = new Model();
    private final List<String> calls = new ArrayList<>();
    /** Wrong arguments are rare. */
    private final boolean isCalm;
    /** Much is added and little removed, so that the limits are reached. */
    private final boolean isCrowded;

    OneRun(int number) {
      this.number = number;
      this.random = new Random(number);
      this.isCalm = number % 3 != 0;
      this.isCrowded = number % 2 == 0;
    }

    boolean agrees() throws ReflectiveOperationException {
      while (calls.size() < CALLS) {
        boolean agrees;
        if (random.nextInt(3) > 0) {
          Method method = FACE.get(random.nextInt(FACE.size()));
          agrees = isLeftOut(method.getName()) || agreesOn(method, arguments(method));
        } else {
          String change = CHANGES.get(random.nextInt(CHANGES.size()));
          boolean isText = change.equals("TEXT") && (!isCrowded || random.nextInt(8) == 0);
          agrees = isText ? agreesOnText() : agreesOnChange(change.equals("TEXT") ? "issue" : change);
        }
        if (!agrees) {
          return false;
        }
      }
      return true;
    }

    // Lone characters would spoil most texts, and what changes anything is drawn by its own list.
    private boolean isLeftOut(String name) {
      boolean isRare = name.equals("feed") || name.equals("execute") || CHANGES.contains(name);
      return isRare && random.nextInt(30) > 0;
    }

    private boolean agreesOnChange(String name) throws ReflectiveOperationException {
      boolean isRemoval = name.equals("restoreSnapshot") || (isCrowded && REMOVALS.contains(name));
      if (isRemoval && random.nextInt(6) > 0) {
        return true;
      }
      Method method = faceMethod(name);
      return agreesOn(method, arguments(method));
    }

    private boolean agreesOnText() throws ReflectiveOperationException {
      String text = text();
      for (char character : text.toCharArray()) {
        if (calls.size() < CALLS && !agreesOn(faceMethod("feed"), character)) {
          return false;
        }
      }
      return calls.size() >= CALLS || agreesOn(faceMethod("execute"));
    }

    private boolean agreesOn(Method method, Object... arguments) throws ReflectiveOperationException {
      Method modelMethod = Model.class.getDeclaredMethod(method.getName(), method.getParameterTypes());
      String due = answer(model, modelMethod, arguments);
      String answer = answer(registry, method, arguments);
      calls.add(method.getName() + Arrays.toString(arguments) + " -> " + answer);
      if (answer.equals(due)) {
        return true;
      }
      System.out.println("run " + number + ":");
      for (String call : calls) {
        System.out.println("  " + call);
      }
      System.out.println("  but due is " + due);
      return false;
    }

    private static String answer(Object object, Method method, Object[] arguments)
        throws IllegalAccessException {
      try {
        return String.valueOf(method.invoke(object, arguments));
      } catch (InvocationTargetException e) {
        return "throws." + e.getCause().getClass().getName();
      }
    }

    private Object[] arguments(Method method) {
      String name = method.getName();
      Object[] arguments = new Object[method.getParameterCount()];
      for (int index = 0; index < arguments.length; index++) {
        Class<?> type = method.getParameterTypes()[index];
        if (type == boolean.class) {
          arguments[index] = random.nextBoolean();
        } else if (type == char.class) {
          arguments[index] = (char) (random.nextInt(4) == 0 ? random.nextInt(65536) : random.nextInt(128));
        } else {
          arguments[index] = number(name, index);
        }
      }
      return arguments;
    }

    private int number(String name, int index) {
      int[] wild = {-1, Integer.MIN_VALUE, Integer.MAX_VALUE, 16, 61, 100, 32, 0, 60, 99, 1};
      if (random.nextInt(isCalm ? 40 : 8) == 0) {
        return wild[random.nextInt(wild.length)];
      }
      switch (name) {
        case "register": case "scarecrowOn": case "grains": case "isGuarded":
          return random.nextInt(16);
        case "move":
          return index == 0 ? scarecrow() : random.nextInt(16);
        case "sow":
          return index == 0 ? random.nextInt(16) : 1 + random.nextInt(30);
        case "pass": case "predictEaten":
          return 1 + random.nextInt(random.nextInt(4) == 0 ? 60 : 5);
        case "issueByRegistry":
          return index == 0 ? scarecrow() : random.nextInt(isCrowded ? 100 : 30);
        case "issue":
          return index == 0 ? issuer() : index == 1 ? scarecrow() : random.nextInt(isCrowded ? 100 : 30);
        case "lineCharacter":
          return random.nextInt(21);
        case "fieldOf": case "isRevoked": case "isCertified": case "isCertifiedByChains":
        case "chainLength": case "daysUntilUncertified": case "setRevoked": case "scarecrowByCertificates":
          return scarecrow();
        default:
          return certificate();
      }
    }

    private int scarecrow() {
      return random.nextInt(model.now.scarecrows.size() + 1);
    }

    /** The farthest certified one of a few scarecrows, so that long chains come about. */
    private int issuer() {
      int issuer = scarecrow();
      int farthest = 0;
      for (int draw = 0; draw < 4; draw++) {
        int drawn = scarecrow();
        int length = drawn < model.now.scarecrows.size() ? model.now.shortest(drawn, Set.of()) : 99;
        if (length < 99 && length > farthest) {
          issuer = drawn;
          farthest = length;
        }
      }
      return issuer;
    }

    private int certificate() {
      return random.nextInt(model.now.certificates.size() + 1);
    }

    private String text() {
      StringBuilder text = new StringBuilder(command());
      while (random.nextInt(4) > 0 && text.length() < 45) {
        text.append(';').append(command());
      }
      if (random.nextInt(5) == 0) {
        spoil(text);
      }
      return text.toString();
    }

    private void spoil(StringBuilder text) {
      int position = random.nextInt(text.length());
      char sign = " ;>0129aeimoprstuvwx".charAt(random.nextInt(20));
      switch (random.nextInt(4)) {
        case 0:
          text.setLength(position);
          break;
        case 1:
          text.setCharAt(position, sign);
          break;
        case 2:
          text.insert(position, sign);
          break;
        default:
          text.deleteCharAt(position);
      }
    }

    private String command() {
      int digit = Math.min(scarecrow(), 9);
      int other = Math.min(scarecrow(), 9);
      int days = random.nextInt(30);
      switch (random.nextInt(9)) {
        case 0: return "put " + random.nextInt(17);
        case 1: return "move " + digit + ">" + random.nextInt(16);
        case 2: return "revoke " + digit;
        case 3: return "restore " + digit;
        case 4: return "root " + digit + " " + days;
        case 5: return "issue " + digit + ">" + other + " " + days;
        case 6: return "drop " + certificate();
        case 7: return "sow " + random.nextInt(16) + " " + (1 + random.nextInt(20));
        default: return "wait " + (random.nextInt(8) == 0 ? "0" : "") + (1 + random.nextInt(6));
      }
    }
  }

  // ---- the model

  private record Certificate(int issuer, int subject, int address, int lastDay) {
    boolean isRoot() {
      return issuer < 0;
    }
  }

  private static final class Scarecrow {
    int field;
    boolean revoked;

    Scarecrow(int field, boolean revoked) {
      this.field = field;
      this.revoked = revoked;
    }
  }

  private static final class World {
    final List<Scarecrow> scarecrows = new ArrayList<>();
    final List<Certificate> certificates = new ArrayList<>();
    final int[] grains = new int[16];
    int day;
    int eaten;
    int sown;

    World() {
      Arrays.fill(grains, 9);
    }

    World copy() {
      World copy = new World();
      scarecrows.forEach(s -> copy.scarecrows.add(new Scarecrow(s.field, s.revoked)));
      copy.certificates.addAll(certificates);
      System.arraycopy(grains, 0, copy.grains, 0, 16);
      copy.day = day;
      copy.eaten = eaten;
      copy.sown = sown;
      return copy;
    }

    boolean standsRight(Certificate certificate) {
      return scarecrows.get(certificate.subject).field == certificate.address;
    }

    /** The least number of certificates in a chain to the scarecrow that avoids some others, or 99. */
    int shortest(int scarecrow, Set<Integer> avoided) {
      if (scarecrows.get(scarecrow).revoked) {
        return 99;
      }
      Set<Integer> here = new HashSet<>(avoided);
      here.add(scarecrow);
      int least = 99;
      for (Certificate certificate : certificates) {
        if (certificate.subject == scarecrow && standsRight(certificate)) {
          if (certificate.isRoot()) {
            return 1;
          }
          if (!here.contains(certificate.issuer)) {
            least = Math.min(least, 1 + shortest(certificate.issuer, here));
          }
        }
      }
      return least;
    }

    boolean certified(int scarecrow) {
      return shortest(scarecrow, Set.of()) < 99;
    }

    boolean inForce(Certificate certificate) {
      return standsRight(certificate) && (certificate.isRoot() || certified(certificate.issuer));
    }

    int inForceCount() {
      return (int) certificates.stream().filter(this::inForce).count();
    }

    int certifiedCount() {
      int count = 0;
      for (int s = 0; s < scarecrows.size(); s++) {
        count += certified(s) ? 1 : 0;
      }
      return count;
    }

    int at(int field) {
      for (Scarecrow scarecrow : scarecrows) {
        if (scarecrow.field == field) {
          return scarecrows.indexOf(scarecrow);
        }
      }
      return -1;
    }

    Set<Integer> guarded() {
      Set<Integer> guarded = new TreeSet<>();
      for (int s = 0; s < scarecrows.size(); s++) {
        if (certified(s)) {
          int row = scarecrows.get(s).field / 4;
          int column = scarecrows.get(s).field % 4;
          int[][] steps = {{0, 0}, {1, 0}, {-1, 0}, {0, 1}, {0, -1}};
          for (int[] step : steps) {
            int r = row + step[0];
            int c = column + step[1];
            if (r >= 0 && r < 4 && c >= 0 && c < 4) {
              guarded.add(4 * r + c);
            }
          }
        }
      }
      return guarded;
    }

    int pass(int days) {
      int before = eaten;
      for (int i = 0; i < days; i++) {
        day++;
        certificates.removeIf(c -> c.lastDay < day);
        int look = 7 * day % 16;
        if (grains[look] > 0 && !guarded().contains(look)) {
          grains[look]--;
          eaten++;
        }
      }
      return eaten - before;
    }
  }

  /** A call that is denied; the model's methods turn it into what the document says. */
  private static final class Denied extends RuntimeException {
    private static final long serialVersionUID = 1;
    final int number;
    final int detail;

    Denied(int number, int detail) {
      this.number = number;
      this.detail = detail;
    }
  }

  private interface Change {
    int perform();
  }

  static final class Model {
    private static final String DIGIT = "[0-9]";
    private static final String NUMBER = "[0-9][0-9]?";
    private static final String COMMAND = "(?:put N|move D>N|revoke D|restore D|root D N|issue D>D N|drop N"
        + "|sow N N|wait N)";
    private static final Pattern TEXT = Pattern.compile(
        (COMMAND + "(?:;" + COMMAND + ")*").replace("D", DIGIT).replace("N", NUMBER), Pattern.DOTALL);

    World now = new World();
    private World saved;
    private final Deque<World> past = new ArrayDeque<>();
    private final StringBuilder buffer = new StringBuilder();
    private String line = "";
    private Integer fault;
    private int[] denial;

    private int change(Change change) {
      World before = now.copy();
      int answer;
      try {
        answer = change.perform();
      } catch (Denied denied) {
        denial = new int[] {denied.number, denied.detail, 0};
        throw new UnsupportedOperationException();
      }
      past.push(before);
      if (past.size() > 8) {
        past.removeLast();
      }
      return answer;
    }

    private void scarecrow(int index) {
      if (index < 0 || index >= now.scarecrows.size()) {
        throw new IndexOutOfBoundsException();
      }
    }

    private Certificate certificate(int index) {
      if (index < 0 || index >= now.certificates.size()) {
        throw new IndexOutOfBoundsException();
      }
      return now.certificates.get(index);
    }

    private static void range(int value, int least, int most) {
      if (value < least || value > most) {
        throw new IllegalArgumentException();
      }
    }

    private static void denyIf(boolean condition, int number, int detail) {
      if (condition) {
        throw new Denied(number, detail);
      }
    }

    public int register(int field) {
      return change(() -> doRegister(field));
    }

    private int doRegister(int field) {
      range(field, 0, 15);
      denyIf(now.scarecrows.size() == 10, 1, 10);
      denyIf(now.at(field) >= 0, 2, now.at(field));
      now.scarecrows.add(new Scarecrow(field, false));
      return now.scarecrows.size() - 1;
    }

    public int move(int scarecrow, int field) {
      return change(() -> doMove(scarecrow, field));
    }

    private int doMove(int scarecrow, int field) {
      scarecrow(scarecrow);
      range(field, 0, 15);
      denyIf(now.at(field) >= 0, 2, now.at(field));
      int left = now.scarecrows.get(scarecrow).field;
      now.scarecrows.get(scarecrow).field = field;
      return left;
    }

    public int setRevoked(int scarecrow, boolean isRevoked) {
      return change(() -> doSetRevoked(scarecrow, isRevoked));
    }

    private int doSetRevoked(int scarecrow, boolean isRevoked) {
      scarecrow(scarecrow);
      denyIf(now.scarecrows.get(scarecrow).revoked == isRevoked, 5, isRevoked ? 1 : 0);
      now.scarecrows.get(scarecrow).revoked = isRevoked;
      return now.certifiedCount();
    }

    public int scarecrowCount() {
      return now.scarecrows.size();
    }

    public int fieldOf(int scarecrow) {
      scarecrow(scarecrow);
      return now.scarecrows.get(scarecrow).field;
    }

    public int scarecrowOn(int field) {
      range(field, 0, 15);
      if (now.at(field) < 0) {
        throw new NoSuchElementException();
      }
      return now.at(field);
    }

    public boolean isRevoked(int scarecrow) {
      scarecrow(scarecrow);
      return now.scarecrows.get(scarecrow).revoked;
    }

    public boolean isCertified(int scarecrow) {
      scarecrow(scarecrow);
      return now.certified(scarecrow);
    }

    public boolean isCertifiedByChains(int scarecrow) {
      return isCertified(scarecrow);
    }

    public int chainLength(int scarecrow) {
      if (!isCertified(scarecrow)) {
        throw new NoSuchElementException();
      }
      return now.shortest(scarecrow, Set.of());
    }

    public int daysUntilUncertified(int scarecrow) {
      scarecrow(scarecrow);
      World later = now.copy();
      int days = 0;
      while (later.certified(scarecrow)) {
        later.pass(1);
        days++;
      }
      return days;
    }

    public int scarecrowByCertificates(int rank) {
      List<Integer> ranked = new ArrayList<>();
      int[] counts = new int[now.scarecrows.size()];
      for (int s = 0; s < counts.length; s++) {
        ranked.add(s);
      }
      now.certificates.stream().filter(now::inForce).forEach(c -> counts[c.subject]++);
      ranked.sort(Comparator.comparing(s -> -counts[s]));
      if (rank < 0 || rank >= ranked.size()) {
        throw new NoSuchElementException();
      }
      return ranked.get(rank);
    }

    public int issueByRegistry(int subject, int days) {
      return change(() -> doIssueByRegistry(subject, days));
    }

    private int doIssueByRegistry(int subject, int days) {
      scarecrow(subject);
      range(days, 0, 99);
      return add(-1, subject, days);
    }

    public int issue(int issuer, int subject, int days) {
      return change(() -> doIssue(issuer, subject, days));
    }

    private int doIssue(int issuer, int subject, int days) {
      scarecrow(issuer);
      scarecrow(subject);
      range(days, 0, 99);
      denyIf(issuer == subject, 4, issuer);
      denyIf(!now.certified(issuer), 3, issuer);
      return add(issuer, subject, days);
    }

    private int add(int issuer, int subject, int days) {
      denyIf(now.certificates.size() == 20, 1, 20);
      now.certificates.add(
          new Certificate(issuer, subject, now.scarecrows.get(subject).field, now.day + days));
      return now.certificates.size() - 1;
    }

    public int withdraw(int certificate) {
      return change(() -> doWithdraw(certificate));
    }

    private int doWithdraw(int certificate) {
      certificate(certificate);
      return now.certificates.remove(certificate).subject;
    }

    public int certificateCount() {
      return now.certificates.size();
    }

    public boolean isByRegistry(int certificate) {
      return certificate(certificate).isRoot();
    }

    public int issuerOf(int certificate) {
      if (certificate(certificate).isRoot()) {
        throw new NoSuchElementException();
      }
      return certificate(certificate).issuer;
    }

    public int subjectOf(int certificate) {
      return certificate(certificate).subject;
    }

    public int addressOf(int certificate) {
      return certificate(certificate).address;
    }

    public int lastDayOf(int certificate) {
      return certificate(certificate).lastDay;
    }

    public boolean isInForce(int certificate) {
      return now.inForce(certificate(certificate));
    }

    public int inForceCount() {
      return now.inForceCount();
    }

    public int sow(int field, int grains) {
      return change(() -> doSow(field, grains));
    }

    private int doSow(int field, int grains) {
      range(field, 0, 15);
      range(grains, 1, 99);
      denyIf(now.grains[field] + grains > 99, 1, 99);
      now.sown += grains;
      now.grains[field] += grains;
      return now.grains[field];
    }

    public int pass(int days) {
      return change(() -> doPass(days));
    }

    private int doPass(int days) {
      range(days, 1, 60);
      return now.pass(days);
    }

    public int predictEaten(int days) {
      range(days, 0, 60);
      return now.copy().pass(days);
    }

    public int day() {
      return now.day;
    }

    public int nextLook() {
      return 7 * (now.day + 1) % 16;
    }

    public int grains(int field) {
      range(field, 0, 15);
      return now.grains[field];
    }

    public boolean isGuarded(int field) {
      range(field, 0, 15);
      return now.guarded().contains(field);
    }

    public int guardedFields() {
      return now.guarded().size();
    }

    public int guardedFieldsByScarecrows() {
      return now.guarded().size();
    }

    public int totalGrains() {
      return 144 + now.sown - now.eaten;
    }

    public int eaten() {
      return now.eaten;
    }

    public int sown() {
      return now.sown;
    }

    public double meanDaysLeft() {
      if (now.certificates.isEmpty()) {
        throw new ArithmeticException();
      }
      return (double) now.certificates.stream().mapToInt(c -> c.lastDay - now.day).sum()
          / (double) now.certificates.size();
    }

    public float inForceShare() {
      if (now.certificates.isEmpty()) {
        throw new ArithmeticException();
      }
      return (float) now.inForceCount() / (float) now.certificates.size();
    }

    public int feed(char character) {
      if (buffer.length() == 60) {
        throw new IllegalStateException();
      }
      return buffer.append(character).length();
    }

    public int execute() {
      String text = buffer.toString();
      buffer.setLength(0);
      if (!TEXT.matcher(text).matches()) {
        fault = faultOf(text);
        throw new IllegalArgumentException();
      }
      String[] commands = text.split(";");
      World before = now.copy();
      return change(() -> {
        for (int index = 0; index < commands.length; index++) {
          int cause = causeOf(commands[index]);
          if (cause > 0) {
            now = before;
            denial = new int[] {6, index, cause};
            throw new UnsupportedOperationException();
          }
        }
        return commands.length;
      });
    }

    /** The longest beginning that can be continued tells the fault. */
    private static int faultOf(String text) {
      int length = 0;
      while (length < text.length()) {
        Matcher matcher = TEXT.matcher(text.substring(0, length + 1));
        if (!matcher.matches() && !matcher.hitEnd()) {
          return length;
        }
        length++;
      }
      return length;
    }

    private int causeOf(String command) {
      try {
        perform(command);
        return 0;
      } catch (Denied denied) {
        return denied.number;
      } catch (IllegalArgumentException | IndexOutOfBoundsException e) {
        return 7;
      }
    }

    private void perform(String command) {
      String[] parts = command.split("[ >]");
      int[] numbers = new int[3];
      for (int i = 1; i < parts.length; i++) {
        numbers[i - 1] = Integer.parseInt(parts[i]);
      }
      switch (parts[0]) {
        case "put" -> doRegister(numbers[0]);
        case "move" -> doMove(numbers[0], numbers[1]);
        case "revoke" -> doSetRevoked(numbers[0], true);
        case "restore" -> doSetRevoked(numbers[0], false);
        case "root" -> doIssueByRegistry(numbers[0], numbers[1]);
        case "issue" -> doIssue(numbers[0], numbers[1], numbers[2]);
        case "drop" -> doWithdraw(numbers[0]);
        case "sow" -> doSow(numbers[0], numbers[1]);
        case "wait" -> doPass(numbers[0]);
        default -> throw new IllegalStateException(command);
      }
    }

    public int faultPosition() {
      if (fault == null) {
        throw new NoSuchElementException();
      }
      return fault;
    }

    public int writeCertificate(int certificate) {
      Certificate written = certificate(certificate);
      line = (written.isRoot() ? "R" : "" + written.issuer) + ">" + written.subject + "@" + written.address
          + "<" + written.lastDay + (now.inForce(written) ? "!" : "");
      return line.length();
    }

    public int writeFields() {
      Set<Integer> guarded = now.guarded();
      List<String> rows = new ArrayList<>();
      for (int row = 0; row < 4; row++) {
        StringBuilder signs = new StringBuilder();
        for (int column = 0; column < 4; column++) {
          int field = 4 * row + column;
          int there = now.at(field);
          if (there < 0) {
            signs.append(guarded.contains(field) ? '+' : '.');
          } else if (now.scarecrows.get(there).revoked) {
            signs.append('R');
          } else {
            signs.append(now.certified(there) ? 'C' : 'S');
          }
        }
        rows.add(signs.toString());
      }
      line = String.join("/", rows);
      return line.length();
    }

    public char lineCharacter(int index) {
      if (index < 0 || index >= line.length()) {
        throw new IndexOutOfBoundsException();
      }
      return line.charAt(index);
    }

    private int denialPart(int part) {
      if (denial == null) {
        throw new NoSuchElementException();
      }
      return denial[part];
    }

    public int denial() {
      return denialPart(0);
    }

    public int denialDetail() {
      return denialPart(1);
    }

    public int denialCause() {
      if (denialPart(2) == 0) {
        throw new NoSuchElementException();
      }
      return denialPart(2);
    }

    public int undo() {
      if (past.isEmpty()) {
        throw new IllegalStateException();
      }
      now = past.pop();
      return past.size();
    }

    public int undoCount() {
      return past.size();
    }

    public int saveSnapshot() {
      saved = now.copy();
      return now.scarecrows.size();
    }

    public int restoreSnapshot() {
      if (saved == null) {
        throw new IllegalStateException();
      }
      now = saved.copy();
      past.clear();
      return now.scarecrows.size();
    }
  }
}
