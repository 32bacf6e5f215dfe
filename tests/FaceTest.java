import java.io.IOException;
import java.lang.reflect.Constructor;
import java.lang.reflect.Field;
import java.lang.reflect.Method;
import java.lang.reflect.Modifier;
import java.nio.file.Files;
import java.nio.file.Path;
import java.util.ArrayList;
import java.util.Arrays;
import java.util.List;
import java.util.Set;
import java.util.TreeSet;

/** The public face is the document's, and the source keeps to what can be seen of LANGUAGE.md. */
public final class FaceTest {
  private static final String IOOBE = "IndexOutOfBoundsException";
  private static final String IAE = "IllegalArgumentException";
  private static final String UOE = "UnsupportedOperationException";
  private static final String NSEE = "NoSuchElementException";
  private static final String ISE = "IllegalStateException";
  private static final String AE = "ArithmeticException";

  private static final Set<String> FACE = new TreeSet<>(List.of(
      "int register(int) " + IAE + " " + UOE,
      "int move(int int) " + IOOBE + " " + IAE + " " + UOE,
      "int setRevoked(int boolean) " + IOOBE + " " + UOE,
      "int scarecrowCount()",
      "int fieldOf(int) " + IOOBE,
      "int scarecrowOn(int) " + IAE + " " + NSEE,
      "boolean isRevoked(int) " + IOOBE,
      "boolean isCertified(int) " + IOOBE,
      "boolean isCertifiedByChains(int) " + IOOBE,
      "int chainLength(int) " + IOOBE + " " + NSEE,
      "int daysUntilUncertified(int) " + IOOBE,
      "int scarecrowByCertificates(int) " + NSEE,
      "int issueByRegistry(int int) " + IOOBE + " " + IAE + " " + UOE,
      "int issue(int int int) " + IOOBE + " " + IAE + " " + UOE,
      "int withdraw(int) " + IOOBE,
      "int certificateCount()",
      "boolean isByRegistry(int) " + IOOBE,
      "int issuerOf(int) " + IOOBE + " " + NSEE,
      "int subjectOf(int) " + IOOBE,
      "int addressOf(int) " + IOOBE,
      "int lastDayOf(int) " + IOOBE,
      "boolean isInForce(int) " + IOOBE,
      "int inForceCount()",
      "int sow(int int) " + IAE + " " + UOE,
      "int pass(int) " + IAE,
      "int predictEaten(int) " + IAE,
      "int day()",
      "int nextLook()",
      "int grains(int) " + IAE,
      "boolean isGuarded(int) " + IAE,
      "int guardedFields()",
      "int guardedFieldsByScarecrows()",
      "int totalGrains()",
      "int eaten()",
      "int sown()",
      "double meanDaysLeft() " + AE,
      "float inForceShare() " + AE,
      "int feed(char) " + ISE,
      "int execute() " + IAE + " " + UOE,
      "int faultPosition() " + NSEE,
      "int writeCertificate(int) " + IOOBE,
      "int writeFields()",
      "char lineCharacter(int) " + IOOBE,
      "int denial() " + NSEE,
      "int denialDetail() " + NSEE,
      "int denialCause() " + NSEE,
      "int undo() " + ISE,
      "int undoCount()",
      "int saveSnapshot()",
      "int restoreSnapshot() " + ISE));

  private static int wrong = 0;

  public static void main(String[] args) throws IOException {
    Class<ScarecrowRegistry> type = ScarecrowRegistry.class;
    check(Modifier.isPublic(type.getModifiers()) && Modifier.isFinal(type.getModifiers()), "public final");
    Constructor<?>[] constructors = type.getDeclaredConstructors();
    check(constructors.length == 1 && Modifier.isPublic(constructors[0].getModifiers())
        && constructors[0].getParameterCount() == 0, "one public constructor");
    check(publicFace(type).equals(FACE), "the public methods: " + publicFace(type));
    checkMembers(type);
    checkSize(type);
    check(type.getDeclaredClasses().length < 12, "at most some twelve classes");
    for (Class<?> inside : type.getDeclaredClasses()) {
      check(Modifier.isStatic(inside.getModifiers()), inside + " is static");
      check(!Modifier.isPublic(inside.getModifiers()), inside + " is not public");
      checkSize(inside);
      for (Method method : inside.getDeclaredMethods()) {
        checkName(method);
      }
    }
    checkSource(Files.readAllLines(Path.of("src/main/java/ScarecrowRegistry.java")));
    System.out.println(wrong == 0 ? "the face is as due" : wrong + " checks of the face failed");
    if (wrong != 0) {
      System.exit(1);
    }
  }

  private static void check(boolean holds, String what) {
    if (!holds) {
      wrong++;
      System.out.println("not so: " + what);
    }
  }

  private static Set<String> publicFace(Class<?> type) {
    Set<String> face = new TreeSet<>();
    for (Method method : type.getDeclaredMethods()) {
      if (Modifier.isPublic(method.getModifiers())) {
        face.add(told(method));
      }
    }
    return face;
  }

  private static String told(Method method) {
    List<String> parameters = new ArrayList<>();
    for (Class<?> parameter : method.getParameterTypes()) {
      parameters.add(parameter.getSimpleName());
    }
    StringBuilder told = new StringBuilder(method.getReturnType().getSimpleName() + " " + method.getName()
        + "(" + String.join(" ", parameters) + ")");
    for (Class<?> exception : method.getExceptionTypes()) {
      told.append(' ').append(exception.getSimpleName());
    }
    return told.toString();
  }

  private static void checkMembers(Class<?> type) {
    for (Method method : type.getDeclaredMethods()) {
      int modifiers = method.getModifiers();
      if (!Modifier.isPublic(modifiers)) {
        check(Modifier.isPrivate(modifiers), method + " is private");
        checkName(method);
      }
    }
    for (Field field : type.getDeclaredFields()) {
      check(Modifier.isPrivate(field.getModifiers()), field + " is private");
      check(!Modifier.isStatic(field.getModifiers()) || Modifier.isFinal(field.getModifiers()),
          field + " is final if static");
    }
  }

  /** LANGUAGE.md, rule 11. */
  private static void checkSize(Class<?> type) {
    long fields = Arrays.stream(type.getDeclaredFields())
        .filter(field -> !Modifier.isStatic(field.getModifiers())).count();
    check(fields <= 20, type + " has at most some twenty fields");
    for (Method method : type.getDeclaredMethods()) {
      check(method.getParameterCount() <= 7, method + " takes at most seven parameters");
    }
  }

  private static void checkName(Method method) {
    boolean isOfFace = FACE.stream().anyMatch(line -> line.contains(" " + method.getName() + "("));
    check(!isOfFace, method + " bears the name of a public method");
  }

  private static void checkSource(List<String> lines) {
    List<String> ruledOut = Arrays.asList("->", "::", "catch", "finally", "assert", "synchronized",
        "package ", "Random", "Thread", "System.out", "currentTime", "nanoTime", "Object", "hashCode",
        "toString", ".ordinal", "Exact(");
    for (int index = 0; index < lines.size(); index++) {
      String code = lines.get(index).strip();
      boolean isComment = code.startsWith("*") || code.startsWith("/");
      for (String sign : ruledOut) {
        check(isComment || !code.contains(sign), "line " + (index + 1) + " does without " + sign);
      }
      boolean isImport = code.startsWith("import ");
      check(!isImport || code.equals("import java.util.NoSuchElementException;"), "import " + code);
      for (char sign : code.toCharArray()) {
        check(sign >= ' ' && sign <= '~', "line " + (index + 1) + " holds plain signs");
      }
    }
  }
}
