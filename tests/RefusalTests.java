/**
 * Every way in which a call is refused: the exception that is due, the one that comes first where several
 * conditions hold, and everything else as it was before the call. Scripts.leavesAsItWas asks the object
 * all that it answers, with and without the refused call.
 */
public final class RefusalTests {
  private static final Scripts SCRIPTS = new Scripts("refusals");

  private static final String IOOBE = "IndexOutOfBoundsException";
  private static final String IAE = "IllegalArgumentException";
  private static final String UOE = "UnsupportedOperationException";
  private static final String NSEE = "NoSuchElementException";
  private static final String ISE = "IllegalStateException";
  private static final String AE = "ArithmeticException";

  private static final String LEAST = "-2147483648";
  private static final String MOST = "2147483647";

  /**
   * Something of everything: four scarecrows (2 is revoked, 3 has moved away from its certificate), four
   * certificates, a snapshot of another state, changes to undo, a denial with a cause and a fault.
   */
  private static final String LIVED = """
      register(0) -> 0
      register(5) -> 1
      register(10) -> 2
      register(15) -> 3
      issueByRegistry(0, 20) -> 0
      issue(0, 1, 9) -> 1
      issue(1, 2, 12) -> 2
      saveSnapshot() -> 4
      issueByRegistry(3, 4) -> 3
      setRevoked(2, true) -> 3
      sow(3, 7) -> 16
      pass(3) -> 1
      move(3, 14) -> 15
      run put x -> throws.IllegalArgumentException
      run wait 1;put 0 -> throws.UnsupportedOperationException
      writeCertificate(1) -> 8
      line -> 0>1@5<9!
      """;
  private static final String LIVED_AND_TYPED = LIVED + "type put 1\n";

  /** Ten scarecrows on the fields 0 to 9 and twenty certificates, of which the last one is not a root. */
  private static final String FULL = Scripts.counted("register(#) -> #", 10)
      + Scripts.counted("issueByRegistry(0, 50) -> #", 19) + "issue(0, 1, 50) -> 19\n";

  public static void main(String[] args) {
    scarecrowArguments();
    certificateArguments();
    fieldAndDayArguments();
    lineAndTextArguments();
    nothingThereYet();
    limitsAsIndices();
    denials();
    denialsOfAFullRegistry();
    faults();
    failedTexts();
    SCRIPTS.end();
  }

  // ---- wrong arguments

  private static void scarecrowArguments() {
    for (String field : new String[] {"-1", "16", LEAST, MOST}) {
      refuses("2", "register(" + field + ")", IAE);
      refuses("3", "move(0, " + field + ")", IAE);
      refuses("3 no such scarecrow comes first", "move(4, " + field + ")", IOOBE);
      refuses("7", "scarecrowOn(" + field + ")", IAE);
    }
    for (String scarecrow : new String[] {"-1", "4", "10", LEAST, MOST}) {
      refuses("3", "move(" + scarecrow + ", 7)", IOOBE);
      refuses("3 no such scarecrow comes before the denial", "move(" + scarecrow + ", 0)", IOOBE);
      refuses("4", "setRevoked(" + scarecrow + ", true)", IOOBE);
      refuses("4", "setRevoked(" + scarecrow + ", false)", IOOBE);
      refuses("6", "fieldOf(" + scarecrow + ")", IOOBE);
      refuses("8", "isRevoked(" + scarecrow + ")", IOOBE);
      refuses("9", "isCertified(" + scarecrow + ")", IOOBE);
      refuses("10", "isCertifiedByChains(" + scarecrow + ")", IOOBE);
      refuses("11", "chainLength(" + scarecrow + ")", IOOBE);
      refuses("12", "daysUntilUncertified(" + scarecrow + ")", IOOBE);
      refuses("13", "scarecrowByCertificates(" + scarecrow + ")", NSEE);
    }
    refuses("7 nobody stands there", "scarecrowOn(7)", NSEE);
    refuses("7 nobody stands there any more", "scarecrowOn(15)", NSEE);
    refuses("11 a revoked one has no chain", "chainLength(2)", NSEE);
    refuses("11 one that moved away has no chain", "chainLength(3)", NSEE);
  }

  private static void certificateArguments() {
    for (String scarecrow : new String[] {"-1", "4", "10", LEAST, MOST}) {
      refuses("14", "issueByRegistry(" + scarecrow + ", 5)", IOOBE);
      refuses("14 no such scarecrow comes first", "issueByRegistry(" + scarecrow + ", 100)", IOOBE);
      refuses("15 no such issuer", "issue(" + scarecrow + ", 1, 5)", IOOBE);
      refuses("15 no such subject", "issue(0, " + scarecrow + ", 5)", IOOBE);
      refuses("15 neither of them", "issue(" + scarecrow + ", " + scarecrow + ", 5)", IOOBE);
      refuses("15 no such issuer comes first", "issue(" + scarecrow + ", 1, 100)", IOOBE);
      refuses("15 no such subject comes first", "issue(2, " + scarecrow + ", -1)", IOOBE);
    }
    for (String days : new String[] {"-1", "100", LEAST, MOST}) {
      refuses("14", "issueByRegistry(0, " + days + ")", IAE);
      refuses("15", "issue(0, 1, " + days + ")", IAE);
      refuses("15 the days come before denial 4", "issue(0, 0, " + days + ")", IAE);
      refuses("15 the days come before denial 3", "issue(2, 0, " + days + ")", IAE);
    }
    for (String certificate : new String[] {"-1", "4", "20", LEAST, MOST}) {
      refuses("16", "withdraw(" + certificate + ")", IOOBE);
      refuses("18", "isByRegistry(" + certificate + ")", IOOBE);
      refuses("19", "issuerOf(" + certificate + ")", IOOBE);
      refuses("20", "subjectOf(" + certificate + ")", IOOBE);
      refuses("21", "addressOf(" + certificate + ")", IOOBE);
      refuses("22", "lastDayOf(" + certificate + ")", IOOBE);
      refuses("23", "isInForce(" + certificate + ")", IOOBE);
    }
    refuses("19 the registry issued it", "issuerOf(0)", NSEE);
  }

  private static void fieldAndDayArguments() {
    for (String field : new String[] {"-1", "16", LEAST, MOST}) {
      refuses("25 no such field", "sow(" + field + ", 5)", IAE);
      refuses("25 no such field, too many grains", "sow(" + field + ", 100)", IAE);
      refuses("30", "grains(" + field + ")", IAE);
      refuses("31", "isGuarded(" + field + ")", IAE);
    }
    for (String grains : new String[] {"0", "100", "-1", LEAST, MOST}) {
      refuses("25", "sow(3, " + grains + ")", IAE);
    }
    for (String days : new String[] {"61", "-1", LEAST, MOST}) {
      refuses("26", "pass(" + days + ")", IAE);
      refuses("27", "predictEaten(" + days + ")", IAE);
    }
    refuses("26", "pass(0)", IAE);
  }

  private static void lineAndTextArguments() {
    for (String certificate : new String[] {"-1", "4", "20", LEAST, MOST}) {
      refuses("42 the line stays", "writeCertificate(" + certificate + ")", IOOBE);
    }
    for (String index : new String[] {"-1", "8", "19", LEAST, MOST}) {
      refuses("44", "lineCharacter(" + index + ")", IOOBE);
    }
    refuses("39 the buffer is full", LIVED + "type " + "put 10;".repeat(8) + "sow \n", "feed('1')", ISE);
    refuses("39 the buffer is full, any sign", LIVED + "60x feed(65535) -> *\n", "feed(0)", ISE);
  }

  private static void nothingThereYet() {
    refuses("6", "", "fieldOf(0)", IOOBE);
    refuses("7", "", "scarecrowOn(0)", NSEE);
    refuses("13", "", "scarecrowByCertificates(0)", NSEE);
    refuses("14", "", "issueByRegistry(0, 0)", IOOBE);
    refuses("15", "", "issue(0, 0, 0)", IOOBE);
    refuses("16", "", "withdraw(0)", IOOBE);
    refuses("16 scarecrows are no certificates", "register(0) -> 0\n", "withdraw(0)", IOOBE);
    refuses("37", "", "meanDaysLeft()", AE);
    refuses("38", "", "inForceShare()", AE);
    refuses("37 the last certificate is withdrawn", LIVED + "4x withdraw(0) -> *\n", "meanDaysLeft()", AE);
    refuses("38 the last certificate is withdrawn", LIVED + "4x withdraw(0) -> *\n", "inForceShare()", AE);
    refuses("37 the last certificate has ended", LIVED + "pass(18) -> *\n", "meanDaysLeft()", AE);
    refuses("38 the last certificate has ended", LIVED + "pass(18) -> *\n", "inForceShare()", AE);
    refuses("41", "register(0) -> 0\n", "faultPosition()", NSEE);
    refuses("42", "register(0) -> 0\n", "writeCertificate(0)", IOOBE);
    refuses("44", "", "lineCharacter(0)", IOOBE);
    refuses("45", "register(0) -> 0\n", "denial()", NSEE);
    refuses("46", "register(0) -> 0\n", "denialDetail()", NSEE);
    refuses("47", "register(0) -> 0\n", "denialCause()", NSEE);
    refuses("47 the latest denial has no cause", LIVED + "register(0) -> throws." + UOE + "\n",
        "denialCause()", NSEE);
    refuses("48", "", "undo()", ISE);
    refuses("48 all is undone", LIVED + "8x undo() -> *\n", "undo()", ISE);
    refuses("48 all is forgotten", LIVED + "restoreSnapshot() -> 4\n", "undo()", ISE);
    refuses("51", LIVED.replace("saveSnapshot() -> 4\n", ""), "restoreSnapshot()", ISE);
  }

  private static void limitsAsIndices() {
    refuses("3", FULL, "move(10, 12)", IOOBE);
    refuses("4", FULL, "setRevoked(10, true)", IOOBE);
    refuses("6", FULL, "fieldOf(10)", IOOBE);
    refuses("8", FULL, "isRevoked(10)", IOOBE);
    refuses("9", FULL, "isCertified(10)", IOOBE);
    refuses("10", FULL, "isCertifiedByChains(10)", IOOBE);
    refuses("11", FULL, "chainLength(10)", IOOBE);
    refuses("11", FULL, "chainLength(9)", NSEE);
    refuses("12", FULL, "daysUntilUncertified(10)", IOOBE);
    refuses("13", FULL, "scarecrowByCertificates(10)", NSEE);
    refuses("16", FULL, "withdraw(20)", IOOBE);
    refuses("18", FULL, "isByRegistry(20)", IOOBE);
    refuses("19", FULL, "issuerOf(20)", IOOBE);
    refuses("20", FULL, "subjectOf(20)", IOOBE);
    refuses("21", FULL, "addressOf(20)", IOOBE);
    refuses("22", FULL, "lastDayOf(20)", IOOBE);
    refuses("23", FULL, "isInForce(20)", IOOBE);
    refuses("42", FULL, "writeCertificate(20)", IOOBE);
  }

  // ---- denials

  private static void denials() {
    denies("2 the first one stands there", LIVED_AND_TYPED, "register(0)", 2, 0);
    denies("2 a revoked one stands there", LIVED_AND_TYPED, "register(10)", 2, 2);
    denies("2 one that moved stands there", LIVED_AND_TYPED, "register(14)", 2, 3);
    denies("3 another one stands there", LIVED_AND_TYPED, "move(0, 5)", 2, 1);
    denies("3 a revoked one stands there", LIVED_AND_TYPED, "move(0, 10)", 2, 2);
    denies("3 it stands there itself", LIVED_AND_TYPED, "move(0, 0)", 2, 0);
    denies("3 the last one stands there itself", LIVED_AND_TYPED, "move(3, 14)", 2, 3);
    denies("4 revoked already", LIVED_AND_TYPED, "setRevoked(2, true)", 5, 1);
    denies("4 not revoked anyway", LIVED_AND_TYPED, "setRevoked(0, false)", 5, 0);
    denies("15 a certified one for itself", LIVED_AND_TYPED, "issue(0, 0, 5)", 4, 0);
    denies("15 denial 4 comes before 3", LIVED_AND_TYPED, "issue(2, 2, 5)", 4, 2);
    denies("15 a revoked issuer", LIVED_AND_TYPED, "issue(2, 0, 5)", 3, 2);
    denies("15 an issuer that moved away", LIVED_AND_TYPED, "issue(3, 0, 5)", 3, 3);
    denies("15 an issuer without a certificate", "register(4) -> 0\nregister(5) -> 1\n", "issue(1, 0, 5)",
        3, 1);
    denies("15 an issuer whose certificate has ended", LIVED + "pass(18) -> *\n", "issue(0, 1, 5)", 3, 0);
    denies("15 an issuer of a circle", LIVED + "issue(1, 0, 9) -> 4\nwithdraw(0) -> 0\n", "issue(1, 2, 5)",
        3, 1);
    denies("25 one grain too many", LIVED_AND_TYPED, "sow(3, 84)", 1, 99);
    denies("25 one grain too many beside 9", LIVED_AND_TYPED, "sow(0, 91)", 1, 99);
    denies("25 the most grains", LIVED_AND_TYPED, "sow(15, 99)", 1, 99);
    denies("25 a full field", LIVED + "sow(8, 90) -> 99\n", "sow(8, 1)", 1, 99);
  }

  private static void denialsOfAFullRegistry() {
    denies("2 ten scarecrows", FULL, "register(10)", 1, 10);
    denies("2 denial 1 comes before 2", FULL, "register(9)", 1, 10);
    denies("3 a tenth one stands there", FULL, "move(0, 9)", 2, 9);
    denies("14 twenty certificates", FULL, "issueByRegistry(1, 5)", 1, 20);
    denies("15 twenty certificates", FULL, "issue(0, 1, 5)", 1, 20);
    denies("15 denial 3 comes before 1", FULL, "issue(9, 0, 5)", 3, 9);
    denies("15 denial 4 comes before 1", FULL, "issue(0, 0, 5)", 4, 0);
    denies("15 denial 4 comes before 3 and 1", FULL, "issue(9, 9, 5)", 4, 9);
    refuses("2 no such field comes before the limit", FULL, "register(16)", IAE);
    refuses("14 no such scarecrow comes before the limit", FULL, "issueByRegistry(10, 5)", IOOBE);
    refuses("14 the days come before the limit", FULL, "issueByRegistry(0, 100)", IAE);
    refuses("15 no such scarecrow comes before the limit", FULL, "issue(0, 10, 5)", IOOBE);
    refuses("15 the days come before the limit", FULL, "issue(0, 1, 100)", IAE);
  }

  // ---- texts

  private static void faults() {
    fault("40 and 41 an empty text", LIVED, "", 0);
    fault("40 and 41 a text that ends too early", LIVED, "put 1;", 6);
    fault("40 and 41 nothing runs before the fault", LIVED, "put 1;wait 9;revoke 0;drop 0;sow 1 1;x", 37);
    fault("40 and 41 a fault comes before a denial", LIVED, "put 0;put", 9);
    fault("40 and 41 a fault of a full buffer", LIVED, "put 10;".repeat(8) + "wait", 60);
    fault("40 and 41 a second fault replaces the first", LIVED + "run wait 1; -> throws." + IAE + "\n",
        "pot", 1);
  }

  private static void failedTexts() {
    String changes = "put 1;move 0>2;revoke 1;wait 9;sow 1 1;drop 0;";
    failedText("2, denial 2", LIVED, changes + "put 5", 6, 2);
    failedText("2, no such field", LIVED, changes + "put 16", 6, 7);
    failedText("3, denial 2", LIVED, changes + "move 4>1", 6, 2);
    failedText("3, no such scarecrow", LIVED, changes + "move 5>7", 6, 7);
    failedText("3, no such field", LIVED, changes + "move 0>16", 6, 7);
    failedText("4, denial 5 for true", LIVED, changes + "revoke 1", 6, 5);
    failedText("4, denial 5 for false", LIVED, changes + "restore 0", 6, 5);
    failedText("4, no such scarecrow to revoke", LIVED, changes + "revoke 5", 6, 7);
    failedText("4, no such scarecrow to restore", LIVED, changes + "restore 9", 6, 7);
    failedText("14, no such scarecrow", LIVED, changes + "root 5 9", 6, 7);
    failedText("15, denial 4", LIVED, changes + "issue 0>0 9", 6, 4);
    failedText("15, denial 3", LIVED, changes + "issue 0>2 9", 6, 3);
    failedText("15, no such issuer", LIVED, changes + "issue 9>0 9", 6, 7);
    failedText("15, no such subject", LIVED, changes + "issue 0>9 9", 6, 7);
    failedText("16, no such certificate", LIVED, changes + "drop 9", 6, 7);
    failedText("25, denial 1", LIVED, changes + "sow 2 91", 6, 1);
    failedText("25, no such field", LIVED, changes + "sow 16 1", 6, 7);
    failedText("25, no grains", LIVED, changes + "sow 1 0", 6, 7);
    failedText("26, no days", LIVED, changes + "wait 0", 6, 7);
    failedText("26, too many days", LIVED, changes + "wait 61", 6, 7);
    failedText("the first command", LIVED, "put 0;put 1;wait 1", 0, 2);
    failedText("a command in the middle", LIVED, "put 1;put 1;wait 1", 1, 2);
    failedText("the tenth command", "", "put 0;put 1;put 2;put 3;put 4;put 5;put 6;put 7;put 8;put 8", 9, 2);
    failedText("a limit of scarecrows", FULL, "wait 1;sow 1 1;put 12", 2, 1);
    failedText("a limit of certificates, by the registry", FULL, "wait 1;sow 1 1;root 1 9", 2, 1);
    failedText("a limit of certificates", FULL, "wait 1;sow 1 1;issue 0>1 9", 2, 1);
    failedText("nothing at all is there", "", "drop 0", 0, 7);
  }

  // ---- the scripts

  private static void refuses(String promise, String call, String exception) {
    refuses(promise, LIVED_AND_TYPED, call, exception);
  }

  private static void refuses(String promise, String setup, String call, String exception) {
    SCRIPTS.leavesAsItWas(promise, setup, call + " -> throws." + exception, "");
  }

  private static void denies(String promise, String setup, String call, int number, int detail) {
    SCRIPTS.leavesAsItWas(promise, setup, call + " -> throws." + UOE, """
        denial() -> NUMBER
        denialDetail() -> DETAIL
        denialCause() -> throws.NoSuchElementException
        """.replace("NUMBER", "" + number).replace("DETAIL", "" + detail));
  }

  private static void fault(String promise, String setup, String text, int position) {
    SCRIPTS.leavesAsItWas(promise, setup, "run " + text + " -> throws." + IAE,
        "faultPosition() -> " + position + "\n");
  }

  private static void failedText(String what, String setup, String text, int command, int cause) {
    SCRIPTS.leavesAsItWas("40, 46 and 47 by " + what, setup, "run " + text + " -> throws." + UOE, """
        denial() -> 6
        denialDetail() -> COMMAND
        denialCause() -> CAUSE
        """.replace("COMMAND", "" + command).replace("CAUSE", "" + cause));
  }
}
