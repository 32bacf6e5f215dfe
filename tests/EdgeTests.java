/**
 * One test for each sentence of the document that names a boundary case: the smallest and the largest
 * number that is allowed, an empty and a full row, text, line or history, and a wrap-around. The calls
 * that are refused beyond these edges, and what they leave unchanged, are in RefusalTests.
 *
 * A test's name begins with the numbers of the promises. How a script is written is told in
 * support/Scripts.java.
 */
public final class EdgeTests {
  private static final Scripts SCRIPTS = new Scripts("edges");

  /** Ten scarecrows on the fields 0 to 9. */
  private static final String TEN = Scripts.counted("register(#) -> #", 10);
  /** Scarecrows on the fields 4 and 5, and twenty certificates of the registry for the first one. */
  private static final String TWENTY = "register(4) -> 0\nregister(5) -> 1\n"
      + Scripts.counted("issueByRegistry(0, #) -> #", 20);

  public static void main(String[] args) {
    newObject();
    registering();
    moving();
    revoking();
    lookingUpScarecrows();
    circles();
    conditionsOfCertification();
    longestChains();
    chainLengths();
    daysLeft();
    ranks();
    issuingByTheRegistry();
    issuing();
    withdrawing();
    whatCertificatesHold();
    force();
    sowing();
    passing();
    expiry();
    predicting();
    looking();
    guarding();
    totals();
    quotients();
    feeding();
    numbersInTexts();
    textsAllOrNone();
    fullTexts();
    faults();
    certificateLines();
    fieldLines();
    lineCharacters();
    denials();
    undoing();
    whatIsNoChange();
    snapshots();
    SCRIPTS.end();
  }

  // ---- 1 to 8: a new object, scarecrows

  private static void newObject() {
    edge("1 no scarecrows", """
        scarecrowCount() -> 0
        fieldOf(0) -> throws.IndexOutOfBoundsException
        scarecrowByCertificates(0) -> throws.NoSuchElementException
        """ + Scripts.counted("scarecrowOn(#) -> throws.NoSuchElementException", 16));
    edge("1 no certificates", """
        certificateCount() -> 0
        inForceCount() -> 0
        subjectOf(0) -> throws.IndexOutOfBoundsException
        withdraw(0) -> throws.IndexOutOfBoundsException
        """);
    edge("1 and 28 on day 0", "day() -> 0\n");
    edge("1 and 29 the first look is at field 7", "nextLook() -> 7\n");
    edge("1 and 30 each field has 9 grains", Scripts.counted("grains(#) -> 9", 16));
    edge("1 and 31 no field is guarded", Scripts.counted("isGuarded(#) -> false", 16) + """
        guardedFields() -> 0
        guardedFieldsByScarecrows() -> 0
        """);
    edge("1 and 34 the fields have 144 grains together", "totalGrains() -> 144\n");
    edge("1, 35 and 36 nothing is eaten or sown", "eaten() -> 0\nsown() -> 0\n");
    edge("1 and 40 the text buffer is empty", """
        execute() -> throws.IllegalArgumentException
        faultPosition() -> 0
        """);
    edge("1 and 48 no change can be undone", "undoCount() -> 0\nundo() -> throws.IllegalStateException\n");
  }

  private static void registering() {
    edge("2 the first field", "register(0) -> 0\nfieldOf(0) -> 0\nscarecrowOn(0) -> 0\n");
    edge("2 the last field", "register(15) -> 0\nfieldOf(0) -> 15\nscarecrowOn(15) -> 0\n");
    edge("2 a field below the first", "register(-1) -> throws.IllegalArgumentException\n");
    edge("2 a field above the last", "register(16) -> throws.IllegalArgumentException\n");
    edge("2 the indices are in the order of registering, not of fields", """
        register(15) -> 0
        register(0) -> 1
        register(7) -> 2
        fieldOf(0) -> 15
        fieldOf(1) -> 0
        fieldOf(2) -> 7
        """);
    edge("2 the tenth is the last one", Scripts.counted("register(#) -> #", 9) + """
        register(15) -> 9
        scarecrowCount() -> 10
        fieldOf(9) -> 15
        register(14) -> throws.UnsupportedOperationException
        denial() -> 1
        denialDetail() -> 10
        """);
    edge("2 and 48 there is room again after an undo", TEN + """
        undo() -> 7
        register(14) -> 9
        register(15) -> throws.UnsupportedOperationException
        """);
    edge("2 a field that was left is free", """
        register(3) -> 0
        move(0, 4) -> 3
        register(3) -> 1
        scarecrowOn(3) -> 1
        scarecrowOn(4) -> 0
        """);
    edge("2 not certified yet, even on the address of a certificate", """
        register(3) -> 0
        issueByRegistry(0, 9) -> 0
        move(0, 4) -> 3
        register(3) -> 1
        isCertified(1) -> false
        isCertifiedByChains(1) -> false
        isInForce(0) -> false
        """);
    edge("2 and 8 not revoked", TEN + Scripts.counted("isRevoked(#) -> false", 10));
  }

  private static void moving() {
    edge("3 to the first field", "register(3) -> 0\nmove(0, 0) -> 3\nfieldOf(0) -> 0\n");
    edge("3 to the last field", "register(3) -> 0\nmove(0, 15) -> 3\nfieldOf(0) -> 15\n");
    edge("3 from the first field and from the last", """
        register(0) -> 0
        register(15) -> 1
        move(0, 1) -> 0
        move(1, 14) -> 15
        """);
    edge("3 the first of ten and the last", TEN + """
        move(0, 10) -> 0
        move(9, 11) -> 9
        move(10, 12) -> throws.IndexOutOfBoundsException
        move(-1, 12) -> throws.IndexOutOfBoundsException
        """);
    edge("3 back to the field that it left", """
        register(3) -> 0
        move(0, 4) -> 3
        move(0, 3) -> 4
        move(0, 3) -> throws.UnsupportedOperationException
        denial() -> 2
        denialDetail() -> 0
        """);
    edge("3 all others stay", TEN + """
        move(4, 15) -> 4
        fieldOf(3) -> 3
        fieldOf(4) -> 15
        fieldOf(5) -> 5
        """);
    edge("3 a revoked one moves, too", """
        register(3) -> 0
        setRevoked(0, true) -> 0
        move(0, 9) -> 3
        isRevoked(0) -> true
        """);
    edge("3 its certificates stay as they are", """
        register(3) -> 0
        issueByRegistry(0, 9) -> 0
        move(0, 9) -> 3
        certificateCount() -> 1
        addressOf(0) -> 3
        isCertified(0) -> false
        """);
  }

  private static void revoking() {
    edge("4 the first of ten and the last", TEN + """
        setRevoked(0, true) -> 0
        setRevoked(9, true) -> 0
        isRevoked(0) -> true
        isRevoked(1) -> false
        isRevoked(8) -> false
        isRevoked(9) -> true
        setRevoked(10, true) -> throws.IndexOutOfBoundsException
        setRevoked(-1, true) -> throws.IndexOutOfBoundsException
        """);
    edge("4 denial 5 for the present value false", """
        register(0) -> 0
        setRevoked(0, false) -> throws.UnsupportedOperationException
        denial() -> 5
        denialDetail() -> 0
        """);
    edge("4 denial 5 for the present value true", """
        register(0) -> 0
        setRevoked(0, true) -> 0
        setRevoked(0, true) -> throws.UnsupportedOperationException
        denial() -> 5
        denialDetail() -> 1
        isRevoked(0) -> true
        """);
    edge("4 revoked and restored is as before", """
        register(0) -> 0
        setRevoked(0, true) -> 0
        setRevoked(0, false) -> 0
        isRevoked(0) -> false
        setRevoked(0, false) -> throws.UnsupportedOperationException
        denialDetail() -> 0
        """);
    edge("4 all ten are certified afterwards, or nine", TEN
        + Scripts.counted("issueByRegistry(#, 9) -> #", 10) + """
        setRevoked(9, true) -> 9
        setRevoked(9, false) -> 10
        """);
    edge("4 the first issuer takes the whole chain with it", """
        register(0) -> 0
        register(1) -> 1
        register(2) -> 2
        issueByRegistry(0, 9) -> 0
        issue(0, 1, 9) -> 1
        issue(1, 2, 9) -> 2
        setRevoked(0, true) -> 0
        setRevoked(0, false) -> 3
        """);
    edge("4 those who are not certified are not counted", TEN + """
        issueByRegistry(3, 9) -> 0
        setRevoked(4, true) -> 1
        setRevoked(4, false) -> 1
        setRevoked(3, true) -> 0
        """);
    edge("4 and 2 a revoked one still stands there", """
        register(0) -> 0
        setRevoked(0, true) -> 0
        scarecrowOn(0) -> 0
        register(0) -> throws.UnsupportedOperationException
        denial() -> 2
        denialDetail() -> 0
        """);
  }

  private static void lookingUpScarecrows() {
    edge("5 from none to ten", """
        scarecrowCount() -> 0
        register(0) -> 0
        scarecrowCount() -> 1
        undo() -> 0
        scarecrowCount() -> 0
        """ + TEN + """
        scarecrowCount() -> 10
        register(12) -> throws.UnsupportedOperationException
        scarecrowCount() -> 10
        """);
    edge("6 the first of ten and the last", TEN + """
        fieldOf(-1) -> throws.IndexOutOfBoundsException
        fieldOf(0) -> 0
        fieldOf(9) -> 9
        fieldOf(10) -> throws.IndexOutOfBoundsException
        """);
    edge("6 the index that the next one would have", """
        register(4) -> 0
        fieldOf(0) -> 4
        fieldOf(1) -> throws.IndexOutOfBoundsException
        """);
    edge("7 the first field and the last", """
        register(15) -> 0
        register(0) -> 1
        scarecrowOn(-1) -> throws.IllegalArgumentException
        scarecrowOn(0) -> 1
        scarecrowOn(15) -> 0
        scarecrowOn(16) -> throws.IllegalArgumentException
        """);
    edge("7 the tenth one", TEN + "scarecrowOn(9) -> 9\nscarecrowOn(10) -> throws.NoSuchElementException\n");
    edge("7 a field that was left", """
        register(15) -> 0
        move(0, 0) -> 15
        scarecrowOn(15) -> throws.NoSuchElementException
        scarecrowOn(0) -> 0
        """);
    edge("8 the first of ten and the last", TEN + """
        setRevoked(9, true) -> 0
        isRevoked(-1) -> throws.IndexOutOfBoundsException
        isRevoked(0) -> false
        isRevoked(9) -> true
        isRevoked(10) -> throws.IndexOutOfBoundsException
        """);
    edge("8 the index that the next one would have", """
        register(4) -> 0
        setRevoked(0, true) -> 0
        isRevoked(1) -> throws.IndexOutOfBoundsException
        register(5) -> 1
        isRevoked(1) -> false
        """);
  }

  // ---- 9 to 13: certification

  private static void circles() {
    edge("9 and 10 the smallest circle", """
        register(0) -> 0
        register(1) -> 1
        issueByRegistry(0, 0) -> 0
        issue(0, 1, 9) -> 1
        issue(1, 0, 9) -> 2
        pass(1) -> 1
        certificateCount() -> 2
        isCertified(0) -> false
        isCertified(1) -> false
        isCertifiedByChains(0) -> false
        isCertifiedByChains(1) -> false
        inForceCount() -> 0
        """);
    String tenInACircle = TEN + "issueByRegistry(0, 9) -> 0\n"
        + Scripts.counted("issue(#, NEXT, 9) -> NEXT", 9) + "issue(9, 0, 9) -> 10\n";
    for (int next = 9; next > 0; next--) {
      tenInACircle = tenInACircle.replace("issue(" + (next - 1) + ", NEXT, 9) -> NEXT",
          "issue(" + (next - 1) + ", " + next + ", 9) -> " + next);
    }
    edge("9 and 10 the largest circle holds as long as the registry does", tenInACircle
        + Scripts.counted("isCertified(#) -> true", 10)
        + Scripts.counted("isCertifiedByChains(#) -> true", 10));
    edge("9 and 10 the largest circle does not hold itself", tenInACircle + "withdraw(0) -> 0\n"
        + Scripts.counted("isCertified(#) -> false", 10)
        + Scripts.counted("isCertifiedByChains(#) -> false", 10) + "inForceCount() -> 0\n");
    edge("9, 10 and 11 a circle is entered anywhere", tenInACircle + """
        withdraw(0) -> 0
        issueByRegistry(5, 9) -> 10
        isCertified(4) -> true
        isCertifiedByChains(4) -> true
        chainLength(4) -> 10
        chainLength(5) -> 1
        inForceCount() -> 11
        """);
    edge("9 and 10 two circles with one scarecrow in common", """
        register(0) -> 0
        register(1) -> 1
        register(2) -> 2
        issueByRegistry(0, 0) -> 0
        issue(0, 1, 9) -> 1
        issue(1, 0, 9) -> 2
        issue(0, 2, 9) -> 3
        issue(2, 0, 9) -> 4
        inForceCount() -> 5
        pass(1) -> 1
        inForceCount() -> 0
        isCertifiedByChains(0) -> false
        isCertifiedByChains(2) -> false
        """);
  }

  private static void conditionsOfCertification() {
    String chain = """
        register(0) -> 0
        register(1) -> 1
        register(2) -> 2
        issueByRegistry(0, 9) -> 0
        issue(0, 1, 9) -> 1
        issue(1, 2, 9) -> 2
        """;
    certified("9 and 10 a whole chain", chain, true, true, true);
    certified("9 and 10 the first is revoked", chain + "setRevoked(0, true) -> 0\n", false, false, false);
    certified("9 and 10 the middle one is revoked", chain + "setRevoked(1, true) -> 1\n", true, false, false);
    certified("9 and 10 the last is revoked", chain + "setRevoked(2, true) -> 2\n", true, true, false);
    certified("9 and 10 the first has moved", chain + "move(0, 9) -> 0\n", false, false, false);
    certified("9 and 10 the middle one has moved", chain + "move(1, 9) -> 1\n", true, false, false);
    certified("9 and 10 the last has moved", chain + "move(2, 9) -> 2\n", true, true, false);
    certified("9 and 10 a certificate in the middle is withdrawn", chain + "withdraw(1) -> 1\n",
        true, false, false);
    certified("9 and 10 the last certificate is withdrawn", chain + "withdraw(2) -> 2\n", true, true, false);
    certified("9 and 10 restored", chain + "setRevoked(0, true) -> 0\nsetRevoked(0, false) -> 3\n",
        true, true, true);
    certified("9 and 10 back on its address", chain + "move(0, 9) -> 0\nmove(0, 0) -> 9\n",
        true, true, true);
    certified("9 and 10 on its last day", chain + "pass(9) -> *\n", true, true, true);
    certified("9 and 10 a day after its last day", chain + "pass(10) -> *\n", false, false, false);
    certified("9 and 10 another on the address is not the subject",
        chain + "move(0, 9) -> 0\nmove(1, 0) -> 1\n", false, false, false);
    certified("9 and 10 one of two certificates is enough",
        chain + "issueByRegistry(1, 9) -> 3\nsetRevoked(0, true) -> 2\n", false, true, true);
    certified("9 and 10 a registry's certificate does not help one who is revoked",
        chain + "setRevoked(1, true) -> 1\nissueByRegistry(1, 9) -> 3\n", true, false, false);
    edge("9 and 10 without a certificate", "register(0) -> 0\nisCertified(0) -> false\n"
        + "isCertifiedByChains(0) -> false\n");
    edge("9 and 10 the first of ten and the last", TEN + """
        issueByRegistry(0, 9) -> 0
        issueByRegistry(9, 9) -> 1
        isCertified(0) -> true
        isCertifiedByChains(0) -> true
        isCertified(9) -> true
        isCertifiedByChains(9) -> true
        isCertified(10) -> throws.IndexOutOfBoundsException
        isCertifiedByChains(10) -> throws.IndexOutOfBoundsException
        isCertified(-1) -> throws.IndexOutOfBoundsException
        isCertifiedByChains(-1) -> throws.IndexOutOfBoundsException
        """);
    edge("9 and 10 by the last of twenty certificates", "register(4) -> 0\nregister(5) -> 1\n"
        + Scripts.counted("issueByRegistry(0, 9) -> #", 19) + """
        isCertified(1) -> false
        issue(0, 1, 9) -> 19
        isCertified(1) -> true
        isCertifiedByChains(1) -> true
        isInForce(19) -> true
        chainLength(1) -> 2
        daysUntilUncertified(1) -> 10
        scarecrowByCertificates(1) -> 1
        """);
  }

  private static void longestChains() {
    String ahead = TEN + "issueByRegistry(0, 9) -> 0\n";
    String behind = TEN + "issueByRegistry(9, 9) -> 0\n";
    for (int link = 1; link < 10; link++) {
      ahead += "issue(" + (link - 1) + ", " + link + ", 9) -> " + link + "\n";
      behind += "issue(" + (10 - link) + ", " + (9 - link) + ", 9) -> " + link + "\n";
    }
    edge("9, 10 and 11 ten certificates in a chain", ahead + """
        isCertified(9) -> true
        isCertifiedByChains(9) -> true
        chainLength(9) -> 10
        chainLength(8) -> 9
        chainLength(0) -> 1
        """);
    edge("9, 10 and 11 ten certificates in a chain, the other way", behind + """
        isCertified(0) -> true
        isCertifiedByChains(0) -> true
        chainLength(0) -> 10
        chainLength(1) -> 9
        chainLength(9) -> 1
        """);
    edge("12 the longest chain ends with its first certificate", ahead + """
        daysUntilUncertified(9) -> 10
        withdraw(0) -> 0
        issueByRegistry(0, 0) -> 9
        daysUntilUncertified(9) -> 1
        """);
    edge("24 the longest chain is in force", ahead + """
        inForceCount() -> 10
        setRevoked(8, true) -> 8
        inForceCount() -> 9
        setRevoked(0, true) -> 0
        inForceCount() -> 1
        """);
  }

  private static void chainLengths() {
    edge("11 the shortest chain has one certificate", """
        register(0) -> 0
        issueByRegistry(0, 0) -> 0
        chainLength(0) -> 1
        """);
    edge("11 not certified", "register(0) -> 0\nchainLength(0) -> throws.NoSuchElementException\n");
    edge("11 the first of ten and the last", TEN + """
        issueByRegistry(0, 9) -> 0
        issue(0, 9, 9) -> 1
        chainLength(-1) -> throws.IndexOutOfBoundsException
        chainLength(0) -> 1
        chainLength(9) -> 2
        chainLength(10) -> throws.IndexOutOfBoundsException
        """);
    String twoWays = """
        register(0) -> 0
        register(1) -> 1
        register(2) -> 2
        issueByRegistry(0, 9) -> 0
        issue(0, 1, 9) -> 1
        issue(1, 2, 9) -> 2
        chainLength(2) -> 3
        issue(0, 2, 1) -> 3
        chainLength(2) -> 2
        """;
    edge("11 the least number of two chains", twoWays);
    edge("11 a certificate that has ended shortens no chain", twoWays + "pass(2) -> *\nchainLength(2) -> 3\n");
    edge("11 a certificate that is not in force shortens no chain", twoWays + """
        register(3) -> 3
        issueByRegistry(3, 9) -> 4
        issue(3, 2, 9) -> 5
        setRevoked(3, true) -> 3
        withdraw(3) -> 2
        chainLength(2) -> 3
        setRevoked(3, false) -> 4
        chainLength(2) -> 2
        """);
  }

  private static void daysLeft() {
    edge("12 none if it is not certified now", """
        register(0) -> 0
        daysUntilUncertified(0) -> 0
        issueByRegistry(0, 9) -> 0
        setRevoked(0, true) -> 0
        daysUntilUncertified(0) -> 0
        setRevoked(0, false) -> 1
        move(0, 1) -> 0
        daysUntilUncertified(0) -> 0
        """);
    edge("12 one on the last day", "register(0) -> 0\nissueByRegistry(0, 0) -> 0\n"
        + "daysUntilUncertified(0) -> 1\n");
    edge("12 a day less than the most", "register(0) -> 0\nissueByRegistry(0, 98) -> 0\n"
        + "daysUntilUncertified(0) -> 99\n");
    edge("12 a hundred at most", "register(0) -> 0\nissueByRegistry(0, 99) -> 0\n"
        + "daysUntilUncertified(0) -> 100\n");
    edge("12 a hundred at most, on a later day", "pass(60) -> 60\nregister(0) -> 0\n"
        + "issueByRegistry(0, 99) -> 0\ndaysUntilUncertified(0) -> 100\n");
    edge("12 certified until then and not any more then", """
        register(0) -> 0
        issueByRegistry(0, 7) -> 0
        daysUntilUncertified(0) -> 8
        pass(7) -> *
        isCertified(0) -> true
        daysUntilUncertified(0) -> 1
        pass(1) -> *
        isCertified(0) -> false
        daysUntilUncertified(0) -> 0
        """);
    edge("12 the first certificate of a chain to end", """
        register(0) -> 0
        register(1) -> 1
        issueByRegistry(0, 3) -> 0
        issue(0, 1, 8) -> 1
        daysUntilUncertified(1) -> 4
        issueByRegistry(0, 99) -> 2
        daysUntilUncertified(1) -> 9
        """);
    edge("12 the last chain to end", """
        register(0) -> 0
        register(1) -> 1
        issueByRegistry(0, 3) -> 0
        issueByRegistry(1, 2) -> 1
        issue(0, 1, 99) -> 2
        daysUntilUncertified(1) -> 4
        """);
    edge("12 a certificate that is not in force does not count", """
        register(0) -> 0
        issueByRegistry(0, 90) -> 0
        move(0, 1) -> 0
        issueByRegistry(0, 4) -> 1
        daysUntilUncertified(0) -> 5
        """);
    edge("12 nothing changes by asking", """
        register(0) -> 0
        issueByRegistry(0, 3) -> 0
        daysUntilUncertified(0) -> 4
        day() -> 0
        certificateCount() -> 1
        isCertified(0) -> true
        undoCount() -> 2
        """);
    edge("12 the first of ten and the last", TEN + """
        issueByRegistry(9, 9) -> 0
        daysUntilUncertified(-1) -> throws.IndexOutOfBoundsException
        daysUntilUncertified(0) -> 0
        daysUntilUncertified(9) -> 10
        daysUntilUncertified(10) -> throws.IndexOutOfBoundsException
        """);
  }

  private static void ranks() {
    edge("13 no rank among none", "scarecrowByCertificates(0) -> throws.NoSuchElementException\n");
    edge("13 the only rank", """
        register(0) -> 0
        scarecrowByCertificates(-1) -> throws.NoSuchElementException
        scarecrowByCertificates(0) -> 0
        scarecrowByCertificates(1) -> throws.NoSuchElementException
        """);
    edge("13 ten ranks, equal numbers", TEN + Scripts.counted("scarecrowByCertificates(#) -> #", 10) + """
        scarecrowByCertificates(10) -> throws.NoSuchElementException
        scarecrowByCertificates(-1) -> throws.NoSuchElementException
        """);
    edge("13 the larger number comes first", """
        register(0) -> 0
        register(1) -> 1
        issueByRegistry(1, 9) -> 0
        scarecrowByCertificates(0) -> 1
        scarecrowByCertificates(1) -> 0
        """);
    edge("13 the smaller index of equal numbers comes first", """
        register(0) -> 0
        register(1) -> 1
        register(2) -> 2
        issueByRegistry(2, 9) -> 0
        issueByRegistry(1, 9) -> 1
        scarecrowByCertificates(0) -> 1
        scarecrowByCertificates(1) -> 2
        scarecrowByCertificates(2) -> 0
        """);
    edge("13 twenty certificates for the last one", TEN + Scripts.counted("issueByRegistry(9, 9) -> #", 20)
        + """
        scarecrowByCertificates(0) -> 9
        scarecrowByCertificates(1) -> 0
        scarecrowByCertificates(9) -> 8
        """);
    edge("13 only those in force count", """
        register(0) -> 0
        register(1) -> 1
        2x issueByRegistry(1, 9) -> *
        issueByRegistry(0, 9) -> 2
        scarecrowByCertificates(0) -> 1
        move(1, 2) -> 1
        scarecrowByCertificates(0) -> 0
        """);
    edge("13 those of a revoked subject count", """
        register(0) -> 0
        register(1) -> 1
        issueByRegistry(1, 9) -> 0
        setRevoked(1, true) -> 0
        scarecrowByCertificates(0) -> 1
        """);
  }

  // ---- 14 to 24: certificates

  private static void issuingByTheRegistry() {
    edge("14 the fewest days", "register(0) -> 0\nissueByRegistry(0, 0) -> 0\nlastDayOf(0) -> 0\n");
    edge("14 the most days", "register(0) -> 0\nissueByRegistry(0, 99) -> 0\nlastDayOf(0) -> 99\n");
    edge("14 a day less than the fewest",
        "register(0) -> 0\nissueByRegistry(0, -1) -> throws.IllegalArgumentException\n");
    edge("14 a day more than the most",
        "register(0) -> 0\nissueByRegistry(0, 100) -> throws.IllegalArgumentException\n");
    edge("14 counted from the present day", """
        register(0) -> 0
        pass(60) -> 60
        issueByRegistry(0, 0) -> 0
        issueByRegistry(0, 99) -> 1
        lastDayOf(0) -> 60
        lastDayOf(1) -> 159
        """);
    edge("14 the first of ten and the last", TEN + """
        issueByRegistry(0, 9) -> 0
        issueByRegistry(9, 9) -> 1
        subjectOf(0) -> 0
        subjectOf(1) -> 9
        issueByRegistry(10, 9) -> throws.IndexOutOfBoundsException
        issueByRegistry(-1, 9) -> throws.IndexOutOfBoundsException
        """);
    edge("14 the twentieth is the last one", TWENTY + """
        certificateCount() -> 20
        lastDayOf(19) -> 19
        issueByRegistry(0, 9) -> throws.UnsupportedOperationException
        denial() -> 1
        denialDetail() -> 20
        """);
    edge("14 and 16 there is room again after one is withdrawn", TWENTY + """
        withdraw(19) -> 0
        issueByRegistry(1, 9) -> 19
        subjectOf(19) -> 1
        """);
    edge("14 and 26 there is room again after one has ended", TWENTY + """
        pass(1) -> 1
        certificateCount() -> 19
        issueByRegistry(1, 9) -> 19
        issueByRegistry(1, 9) -> throws.UnsupportedOperationException
        """);
    edge("14 the address is where the subject stood when it was issued", """
        register(0) -> 0
        move(0, 15) -> 0
        issueByRegistry(0, 9) -> 0
        addressOf(0) -> 15
        move(0, 0) -> 15
        issueByRegistry(0, 9) -> 1
        addressOf(0) -> 15
        addressOf(1) -> 0
        """);
    edge("14 for a revoked one, too", """
        register(0) -> 0
        setRevoked(0, true) -> 0
        issueByRegistry(0, 9) -> 0
        isInForce(0) -> true
        isCertified(0) -> false
        """);
    edge("14 a second one that is the same", """
        register(0) -> 0
        issueByRegistry(0, 9) -> 0
        issueByRegistry(0, 9) -> 1
        certificateCount() -> 2
        """);
  }

  private static void issuing() {
    String root = "register(0) -> 0\nregister(1) -> 1\nissueByRegistry(0, 50) -> 0\n";
    edge("15 the fewest days", root + "issue(0, 1, 0) -> 1\nlastDayOf(1) -> 0\n");
    edge("15 the most days", root + "issue(0, 1, 99) -> 1\nlastDayOf(1) -> 99\n");
    edge("15 a day less than the fewest", root + "issue(0, 1, -1) -> throws.IllegalArgumentException\n");
    edge("15 a day more than the most", root + "issue(0, 1, 100) -> throws.IllegalArgumentException\n");
    edge("15 counted from the present day", root + """
        pass(50) -> *
        issue(0, 1, 0) -> 1
        issue(0, 1, 99) -> 2
        lastDayOf(1) -> 50
        lastDayOf(2) -> 149
        """);
    edge("15 the first of ten and the last", TEN + """
        issueByRegistry(0, 9) -> 0
        issue(0, 9, 9) -> 1
        issue(9, 0, 9) -> 2
        issuerOf(1) -> 0
        subjectOf(1) -> 9
        issuerOf(2) -> 9
        subjectOf(2) -> 0
        issue(10, 0, 9) -> throws.IndexOutOfBoundsException
        issue(0, 10, 9) -> throws.IndexOutOfBoundsException
        issue(-1, 0, 9) -> throws.IndexOutOfBoundsException
        issue(0, -1, 9) -> throws.IndexOutOfBoundsException
        """);
    edge("15 the twentieth is the last one", "register(4) -> 0\nregister(5) -> 1\n"
        + Scripts.counted("issueByRegistry(0, 9) -> #", 19) + """
        issue(0, 1, 9) -> 19
        issuerOf(19) -> 0
        issue(0, 1, 9) -> throws.UnsupportedOperationException
        denial() -> 1
        denialDetail() -> 20
        """);
    edge("15 and 16 there is room again after one is withdrawn", TWENTY + """
        withdraw(0) -> 0
        issue(0, 1, 9) -> 19
        issue(0, 1, 9) -> throws.UnsupportedOperationException
        """);
    edge("15 the subject is revoked", root + "setRevoked(1, true) -> 1\nissue(0, 1, 9) -> 1\n"
        + "isInForce(1) -> true\nisCertified(1) -> false\n");
    edge("15 the issuer on its last day", root + "pass(50) -> *\nissue(0, 1, 9) -> 1\n");
    edge("15 the issuer a day after its last day", root + """
        pass(51) -> *
        issue(0, 1, 9) -> throws.UnsupportedOperationException
        denial() -> 3
        denialDetail() -> 0
        """);
    edge("15 the issuer away from its address and back", root + """
        move(0, 9) -> 0
        issue(0, 1, 9) -> throws.UnsupportedOperationException
        denial() -> 3
        move(0, 0) -> 9
        issue(0, 1, 9) -> 1
        """);
    edge("15 the issuer revoked and restored", root + """
        setRevoked(0, true) -> 0
        issue(0, 1, 9) -> throws.UnsupportedOperationException
        denial() -> 3
        setRevoked(0, false) -> 1
        issue(0, 1, 9) -> 1
        """);
    edge("15 the address is the subject's field, not the issuer's", root + """
        move(1, 15) -> 1
        issue(0, 1, 9) -> 1
        addressOf(1) -> 15
        """);
  }

  private static void withdrawing() {
    String three = """
        register(4) -> 0
        register(5) -> 1
        register(6) -> 2
        issueByRegistry(0, 10) -> 0
        issue(0, 1, 11) -> 1
        issueByRegistry(2, 12) -> 2
        """;
    edge("16 the first: the later indices decrease by 1", three + """
        withdraw(0) -> 0
        lastDayOf(0) -> 11
        lastDayOf(1) -> 12
        subjectOf(0) -> 1
        subjectOf(1) -> 2
        issuerOf(0) -> 0
        isByRegistry(1) -> true
        addressOf(0) -> 5
        addressOf(1) -> 6
        lastDayOf(2) -> throws.IndexOutOfBoundsException
        """);
    edge("16 a middle one: the earlier indices stay", three + """
        withdraw(1) -> 1
        lastDayOf(0) -> 10
        lastDayOf(1) -> 12
        subjectOf(1) -> 2
        isByRegistry(1) -> true
        addressOf(1) -> 6
        """);
    edge("16 the last", three + """
        withdraw(2) -> 2
        lastDayOf(0) -> 10
        lastDayOf(1) -> 11
        lastDayOf(2) -> throws.IndexOutOfBoundsException
        """);
    edge("16 the only one", "register(4) -> 0\nissueByRegistry(0, 9) -> 0\nwithdraw(0) -> 0\n"
        + "certificateCount() -> 0\nwithdraw(0) -> throws.IndexOutOfBoundsException\n");
    edge("16 the index that the next one would have", three + """
        withdraw(3) -> throws.IndexOutOfBoundsException
        withdraw(-1) -> throws.IndexOutOfBoundsException
        certificateCount() -> 3
        """);
    edge("16 the first of twenty", TWENTY + """
        withdraw(0) -> 0
        lastDayOf(0) -> 1
        lastDayOf(18) -> 19
        lastDayOf(19) -> throws.IndexOutOfBoundsException
        """);
    edge("16 the last of twenty", TWENTY + """
        withdraw(20) -> throws.IndexOutOfBoundsException
        withdraw(19) -> 0
        lastDayOf(0) -> 0
        lastDayOf(18) -> 18
        lastDayOf(19) -> throws.IndexOutOfBoundsException
        """);
    edge("16 all of twenty", TWENTY + "20x withdraw(0) -> 0\ncertificateCount() -> 0\n");
    edge("9, 10, 12, 13 and 24 all of twenty are withdrawn", "register(5) -> 0\nregister(4) -> 1\n"
        + Scripts.counted("issueByRegistry(1, #) -> #", 20) + """
        20x withdraw(0) -> 1
        isCertified(1) -> false
        isCertifiedByChains(1) -> false
        daysUntilUncertified(1) -> 0
        scarecrowByCertificates(0) -> 0
        inForceCount() -> 0
        """);
    edge("16 one that is not in force", three + "setRevoked(0, true) -> 1\nwithdraw(1) -> 1\n"
        + "certificateCount() -> 2\n");
    edge("16 one of two that are the same", """
        register(4) -> 0
        2x issueByRegistry(0, 9) -> *
        withdraw(0) -> 0
        isCertified(0) -> true
        withdraw(0) -> 0
        isCertified(0) -> false
        """);
  }

  private static void whatCertificatesHold() {
    edge("17 from none to twenty", "certificateCount() -> 0\n" + TWENTY + """
        certificateCount() -> 20
        issueByRegistry(0, 9) -> throws.UnsupportedOperationException
        certificateCount() -> 20
        """);
    edge("17 those that are not in force are kept", TWENTY + "move(0, 9) -> 4\ncertificateCount() -> 20\n");
    String[] questions = {"isByRegistry", "subjectOf", "addressOf", "lastDayOf", "isInForce"};
    String[] firstAnswers = {"true", "0", "4", "0", "true"};
    String[] lastAnswers = {"true", "0", "4", "19", "true"};
    int[] promises = {18, 20, 21, 22, 23};
    for (int index = 0; index < questions.length; index++) {
      edge(promises[index] + " the first of twenty and the last", TWENTY + """
          ASK(-1) -> throws.IndexOutOfBoundsException
          ASK(0) -> FIRST
          ASK(19) -> LAST
          ASK(20) -> throws.IndexOutOfBoundsException
          """.replace("ASK", questions[index]).replace("FIRST", firstAnswers[index])
          .replace("LAST", lastAnswers[index]));
    }
    edge("19 the first of twenty and the last", "register(4) -> 0\nregister(5) -> 1\n"
        + "issueByRegistry(0, 9) -> 0\n" + "19x issue(0, 1, 9) -> *\n" + """
        issuerOf(-1) -> throws.IndexOutOfBoundsException
        issuerOf(0) -> throws.NoSuchElementException
        issuerOf(1) -> 0
        issuerOf(19) -> 0
        issuerOf(20) -> throws.IndexOutOfBoundsException
        """);
    edge("18 and 19 the first scarecrow is not the registry", """
        register(4) -> 0
        register(5) -> 1
        issueByRegistry(0, 9) -> 0
        issue(0, 1, 9) -> 1
        isByRegistry(0) -> true
        isByRegistry(1) -> false
        issuerOf(0) -> throws.NoSuchElementException
        issuerOf(1) -> 0
        """);
    edge("19 the tenth scarecrow as the issuer", TEN + """
        issueByRegistry(9, 9) -> 0
        issue(9, 0, 9) -> 1
        issuerOf(1) -> 9
        """);
    edge("21 the first field and the last", """
        register(0) -> 0
        register(15) -> 1
        issueByRegistry(0, 9) -> 0
        issueByRegistry(1, 9) -> 1
        addressOf(0) -> 0
        addressOf(1) -> 15
        """);
    edge("22 the last day stays when days pass", """
        register(0) -> 0
        issueByRegistry(0, 60) -> 0
        pass(60) -> *
        lastDayOf(0) -> 60
        """);
  }

  private static void force() {
    edge("23 the subject does not stand on the address", """
        register(0) -> 0
        issueByRegistry(0, 9) -> 0
        isInForce(0) -> true
        move(0, 1) -> 0
        isInForce(0) -> false
        """);
    edge("23 kept, and in force again", """
        register(0) -> 0
        issueByRegistry(0, 9) -> 0
        move(0, 1) -> 0
        issueByRegistry(0, 9) -> 1
        isInForce(0) -> false
        isInForce(1) -> true
        move(0, 0) -> 1
        isInForce(0) -> true
        isInForce(1) -> false
        """);
    edge("23 the issuer is not certified", """
        register(0) -> 0
        register(1) -> 1
        issueByRegistry(0, 9) -> 0
        issue(0, 1, 9) -> 1
        withdraw(0) -> 0
        isInForce(0) -> false
        issueByRegistry(0, 9) -> 1
        isInForce(0) -> true
        """);
    edge("23 the subject is revoked", """
        register(0) -> 0
        register(1) -> 1
        issueByRegistry(0, 9) -> 0
        issue(0, 1, 9) -> 1
        setRevoked(1, true) -> 1
        isInForce(1) -> true
        setRevoked(0, true) -> 0
        isInForce(0) -> true
        isInForce(1) -> false
        """);
    edge("23 on the last day", """
        register(0) -> 0
        issueByRegistry(0, 3) -> 0
        pass(3) -> *
        isInForce(0) -> true
        pass(1) -> *
        isInForce(0) -> throws.IndexOutOfBoundsException
        """);
    edge("24 none of none", "inForceCount() -> 0\n");
    edge("24 all of twenty", TWENTY + "inForceCount() -> 20\n");
    edge("24 none of twenty", TWENTY + "move(0, 15) -> 4\ninForceCount() -> 0\n");
    edge("24 twenty with a revoked subject", TWENTY + "setRevoked(0, true) -> 0\ninForceCount() -> 20\n");
  }

  // ---- 25 to 38: fields, days

  private static void sowing() {
    edge("25 the first field and the last", """
        sow(-1, 1) -> throws.IllegalArgumentException
        sow(0, 1) -> 10
        sow(15, 1) -> 10
        sow(16, 1) -> throws.IllegalArgumentException
        """);
    edge("25 the fewest grains", "sow(3, 0) -> throws.IllegalArgumentException\nsow(3, 1) -> 10\n");
    edge("25 the most grains, on an empty field", "9x pass(16) -> 16\ngrains(3) -> 0\n"
        + "sow(3, 100) -> throws.IllegalArgumentException\nsow(3, 99) -> 99\n");
    edge("25 just 99 grains", "sow(3, 90) -> 99\ngrains(3) -> 99\nsown() -> 90\n");
    edge("25 one more than 99 grains", """
        sow(3, 91) -> throws.UnsupportedOperationException
        denial() -> 1
        denialDetail() -> 99
        grains(3) -> 9
        sown() -> 0
        """);
    edge("25 one grain on a full field", """
        sow(3, 90) -> 99
        sow(3, 1) -> throws.UnsupportedOperationException
        denial() -> 1
        denialDetail() -> 99
        """);
    edge("25 and 26 there is room again after the crow has eaten", """
        sow(7, 90) -> 99
        pass(1) -> 1
        sow(7, 2) -> throws.UnsupportedOperationException
        sow(7, 1) -> 99
        """);
    edge("25 the other fields stay", "sow(0, 90) -> 99\ngrains(1) -> 9\ngrains(4) -> 9\ngrains(15) -> 9\n");
    edge("25 a guarded field is sown, too", """
        register(3) -> 0
        issueByRegistry(0, 9) -> 0
        sow(3, 5) -> 14
        """);
  }

  private static void passing() {
    edge("26 the fewest days", "pass(0) -> throws.IllegalArgumentException\npass(1) -> 1\nday() -> 1\n");
    edge("26 the most days", "pass(61) -> throws.IllegalArgumentException\npass(60) -> 60\nday() -> 60\n");
    int[] looks = {7, 14, 5, 12, 3, 10, 1, 8, 15, 6, 13, 4, 11, 2, 9, 0};
    StringBuilder sixteenDays = new StringBuilder();
    for (int look : looks) {
      sixteenDays.append("nextLook() -> ").append(look).append("\npass(1) -> 1\ngrains(").append(look)
          .append(") -> 8\n");
    }
    edge("26 and 29 the crow looks at 7 times the day, modulo 16", sixteenDays.toString());
    edge("26 and 29 and from the beginning after 16 days", sixteenDays + "nextLook() -> 7\npass(1) -> 1\n"
        + "grains(7) -> 7\nnextLook() -> 14\n");
    edge("26 one grain of one field is eaten a day", "pass(1) -> 1\ngrains(6) -> 9\ngrains(7) -> 8\n"
        + "grains(8) -> 9\ntotalGrains() -> 143\n");
    edge("26 many days are as many single ones", "pass(37) -> 37\ngrains(7) -> 6\ngrains(14) -> 6\n"
        + "grains(3) -> 6\ngrains(10) -> 7\ngrains(0) -> 7\neaten() -> 37\n");
    edge("26 the last grain of a field", """
        8x pass(16) -> 16
        grains(7) -> 1
        pass(1) -> 1
        grains(7) -> 0
        grains(14) -> 1
        """);
    edge("26 a field without grains", """
        9x pass(16) -> 16
        grains(7) -> 0
        pass(1) -> 0
        grains(7) -> 0
        eaten() -> 144
        totalGrains() -> 0
        """);
    edge("26 only fields that have grains", "9x pass(16) -> 16\nsow(14, 1) -> 1\npass(16) -> 1\n"
        + "pass(16) -> 0\n");
    edge("26 a guarded field", """
        register(7) -> 0
        issueByRegistry(0, 9) -> 0
        pass(1) -> 0
        grains(7) -> 9
        day() -> 1
        nextLook() -> 14
        """);
    edge("26 a field beside a guard, and one further away", """
        register(6) -> 0
        issueByRegistry(0, 9) -> 0
        pass(1) -> 0
        register(15) -> 1
        move(0, 13) -> 6
        issueByRegistry(0, 9) -> 1
        isGuarded(14) -> true
        pass(1) -> 0
        isGuarded(5) -> false
        pass(1) -> 1
        """);
    edge("26 a revoked scarecrow guards nothing", """
        register(7) -> 0
        issueByRegistry(0, 9) -> 0
        setRevoked(0, true) -> 0
        pass(1) -> 1
        """);
    edge("26 a scarecrow away from its address guards nothing", """
        register(6) -> 0
        issueByRegistry(0, 9) -> 0
        move(0, 7) -> 6
        pass(1) -> 1
        """);
  }

  private static void expiry() {
    edge("26 a certificate is held on its last day", """
        register(0) -> 0
        issueByRegistry(0, 1) -> 0
        pass(1) -> *
        certificateCount() -> 1
        """);
    edge("26 and removed on the day after", """
        register(0) -> 0
        issueByRegistry(0, 1) -> 0
        pass(2) -> *
        certificateCount() -> 0
        """);
    edge("26 held for no days, it is removed on the next day", """
        register(0) -> 0
        issueByRegistry(0, 0) -> 0
        certificateCount() -> 1
        pass(1) -> *
        certificateCount() -> 0
        """);
    edge("26 all twenty are removed on the same day", "register(4) -> 0\n"
        + Scripts.counted("issueByRegistry(0, 0) -> #", 20) + "pass(1) -> *\ncertificateCount() -> 0\n");
    edge("26 one of twenty is removed a day", TWENTY + """
        pass(1) -> *
        certificateCount() -> 19
        lastDayOf(0) -> 1
        pass(18) -> *
        certificateCount() -> 1
        lastDayOf(0) -> 19
        pass(1) -> *
        certificateCount() -> 0
        """);
    edge("26 the first and the last of the row are removed", """
        register(0) -> 0
        issueByRegistry(0, 0) -> 0
        issueByRegistry(0, 5) -> 1
        issueByRegistry(0, 6) -> 2
        issueByRegistry(0, 0) -> 3
        pass(1) -> *
        certificateCount() -> 2
        lastDayOf(0) -> 5
        lastDayOf(1) -> 6
        """);
    edge("26 neighbours in the row are removed", """
        register(0) -> 0
        issueByRegistry(0, 5) -> 0
        issueByRegistry(0, 0) -> 1
        issueByRegistry(0, 0) -> 2
        issueByRegistry(0, 6) -> 3
        pass(1) -> *
        certificateCount() -> 2
        lastDayOf(0) -> 5
        lastDayOf(1) -> 6
        """);
    edge("26 those that are not in force are removed, too", """
        register(0) -> 0
        issueByRegistry(0, 1) -> 0
        move(0, 1) -> 0
        pass(1) -> *
        certificateCount() -> 1
        pass(1) -> *
        certificateCount() -> 0
        """);
    edge("26 they are removed before the crow looks", """
        register(7) -> 0
        issueByRegistry(0, 0) -> 0
        isGuarded(7) -> true
        pass(1) -> 1
        """);
    edge("26 on the last day the crow sees the guard", """
        register(7) -> 0
        issueByRegistry(0, 1) -> 0
        pass(1) -> 0
        """);
    edge("26 the issuer's end is the subject's end", """
        register(0) -> 0
        register(7) -> 1
        issueByRegistry(0, 0) -> 0
        issue(0, 1, 9) -> 1
        pass(1) -> 1
        certificateCount() -> 1
        inForceCount() -> 0
        """);
  }

  private static void predicting() {
    edge("27 no days", "predictEaten(0) -> 0\n");
    edge("27 a day less than none", "predictEaten(-1) -> throws.IllegalArgumentException\n");
    edge("27 the most days", "predictEaten(60) -> 60\n");
    edge("27 a day more than the most", "predictEaten(61) -> throws.IllegalArgumentException\n");
    edge("27 nothing changes by asking", """
        register(7) -> 0
        issueByRegistry(0, 3) -> 0
        predictEaten(60) -> 59
        predictEaten(60) -> 59
        day() -> 0
        nextLook() -> 7
        eaten() -> 0
        totalGrains() -> 144
        grains(14) -> 9
        certificateCount() -> 1
        isCertified(0) -> true
        undoCount() -> 2
        """);
    edge("27 on the last day and a day later", """
        register(15) -> 0
        issueByRegistry(0, 8) -> 0
        predictEaten(8) -> 7
        predictEaten(9) -> 8
        issueByRegistry(0, 9) -> 1
        predictEaten(9) -> 7
        """);
    edge("27 until the grains end", """
        2x pass(60) -> 60
        predictEaten(24) -> 24
        predictEaten(25) -> 24
        predictEaten(60) -> 24
        pass(60) -> 24
        predictEaten(60) -> 0
        """);
    edge("27 and 26 what is foretold is eaten", """
        register(5) -> 0
        issueByRegistry(0, 20) -> 0
        predictEaten(37) -> 31
        pass(37) -> 31
        """);
  }

  private static void looking() {
    edge("28 the day after the most days", "3x pass(60) -> *\nday() -> 180\n");
    edge("28 and 48 back to day 0", "pass(60) -> 60\nundo() -> 0\nday() -> 0\nnextLook() -> 7\n");
    edge("29 field 0 is next on day 15", "pass(15) -> 15\nnextLook() -> 0\n");
    edge("29 field 7 is next on day 16", "pass(16) -> 16\nnextLook() -> 7\n");
    edge("26 and 28 an object is used for 512 calls", "511x pass(60) -> *\nday() -> 30660\n");
    edge("29 a late day", "180x pass(60) -> *\nday() -> 10800\nnextLook() -> 7\npass(15) -> 0\n"
        + "nextLook() -> 0\n");
    edge("30 the first field and the last", """
        grains(-1) -> throws.IllegalArgumentException
        grains(0) -> 9
        grains(15) -> 9
        grains(16) -> throws.IllegalArgumentException
        """);
    edge("30 no grains and 99", "sow(1, 90) -> 99\ngrains(1) -> 99\n9x pass(16) -> *\ngrains(0) -> 0\n"
        + "grains(1) -> 90\n");
  }

  private static void guarding() {
    edge("31 the first field and the last", """
        isGuarded(-1) -> throws.IllegalArgumentException
        isGuarded(0) -> false
        isGuarded(15) -> false
        isGuarded(16) -> throws.IllegalArgumentException
        """);
    for (int field = 0; field < 16; field++) {
      StringBuilder script = new StringBuilder("register(" + field + ") -> 0\nissueByRegistry(0, 9) -> 0\n");
      int near = 0;
      for (int other = 0; other < 16; other++) {
        int distance = Math.abs(field / 4 - other / 4) + Math.abs(field % 4 - other % 4);
        script.append("isGuarded(").append(other).append(") -> ").append(distance <= 1).append('\n');
        near += distance <= 1 ? 1 : 0;
      }
      edge("31 a guard on field " + field, script.toString());
      edge("32 and 33 a guard on field " + field, "register(" + field + ") -> 0\nguardedFields() -> 0\n"
          + "issueByRegistry(0, 9) -> 0\nguardedFields() -> " + near + "\nguardedFieldsByScarecrows() -> "
          + near + "\n");
    }
    String four = """
        register(1) -> 0
        register(7) -> 1
        register(8) -> 2
        register(14) -> 3
        """ + Scripts.counted("issueByRegistry(#, 9) -> #", 4);
    edge("31 all sixteen fields", four + Scripts.counted("isGuarded(#) -> true", 16));
    edge("32 all sixteen fields", four + "guardedFields() -> 16\n");
    edge("33 all sixteen fields", four + "guardedFieldsByScarecrows() -> 16\n");
    edge("32 and 33 none without scarecrows", "guardedFields() -> 0\nguardedFieldsByScarecrows() -> 0\n");
    edge("32 and 33 none by those who are not certified", TEN
        + "guardedFields() -> 0\nguardedFieldsByScarecrows() -> 0\n");
    edge("32 and 33 fields of several guards count once", TEN
        + Scripts.counted("issueByRegistry(#, 9) -> #", 10)
        + "guardedFields() -> 14\nguardedFieldsByScarecrows() -> 14\n");
    edge("31, 32 and 33 a revoked one guards nothing", """
        register(5) -> 0
        issueByRegistry(0, 9) -> 0
        setRevoked(0, true) -> 0
        isGuarded(5) -> false
        guardedFields() -> 0
        guardedFieldsByScarecrows() -> 0
        """);
    edge("31, 32 and 33 the guard is where it stands now", """
        register(5) -> 0
        issueByRegistry(0, 9) -> 0
        move(0, 10) -> 5
        isGuarded(5) -> false
        issueByRegistry(0, 9) -> 1
        isGuarded(5) -> false
        isGuarded(10) -> true
        guardedFields() -> 5
        guardedFieldsByScarecrows() -> 5
        """);
  }

  private static void totals() {
    edge("34, 35 and 36 144 plus the sown is what is there and what is eaten", """
        sow(0, 90) -> 99
        sow(15, 1) -> 10
        pass(60) -> 60
        totalGrains() -> 175
        eaten() -> 60
        sown() -> 91
        """);
    edge("34 no grains at all", "9x pass(16) -> 16\ntotalGrains() -> 0\neaten() -> 144\n");
    edge("34 99 grains on each field", Scripts.counted("sow(#, 90) -> 99", 16)
        + "totalGrains() -> 1584\nsown() -> 1440\n");
    edge("34, 35 and 36 a denied sowing does not count", """
        sow(0, 91) -> throws.UnsupportedOperationException
        totalGrains() -> 144
        sown() -> 0
        eaten() -> 0
        """);
    edge("35 all days together, not those of one call", "pass(3) -> 3\npass(4) -> 4\neaten() -> 7\n");
    edge("36 all sowings together", "sow(3, 3) -> 12\nsow(4, 4) -> 13\nsow(3, 1) -> 13\nsown() -> 8\n");
    edge("35 and 36 back by undo", "sow(3, 3) -> 12\npass(3) -> 3\nundo() -> 1\neaten() -> 0\n"
        + "sown() -> 3\nundo() -> 0\nsown() -> 0\n");
  }

  private static void quotients() {
    String one = "register(5) -> 0\n";
    edge("37 no certificates", one + "meanDaysLeft() -> throws.ArithmeticException\n");
    edge("37 on the last day", one + "issueByRegistry(0, 0) -> 0\nmeanDaysLeft() -> 0.0\n");
    edge("37 the most days", one + "issueByRegistry(0, 99) -> 0\nmeanDaysLeft() -> 99.0\n");
    edge("37 as a double, not rounded", one + "issueByRegistry(0, 0) -> 0\nissueByRegistry(0, 1) -> 1\n"
        + "issueByRegistry(0, 0) -> 2\nmeanDaysLeft() -> 0.3333333333333333\n");
    edge("37 the present day is taken off each", one + "pass(60) -> 60\nissueByRegistry(0, 3) -> 0\n"
        + "issueByRegistry(0, 4) -> 1\nmeanDaysLeft() -> 3.5\npass(1) -> *\nmeanDaysLeft() -> 2.5\n");
    edge("37 twenty certificates", TWENTY + "meanDaysLeft() -> 9.5\n");
    edge("37 those that are not in force count, too", TWENTY + "move(0, 9) -> 4\nmeanDaysLeft() -> 9.5\n");
    edge("38 no certificates", one + "inForceShare() -> throws.ArithmeticException\n");
    edge("38 a single one", one + "issueByRegistry(0, 9) -> 0\ninForceShare() -> 1.0\n");
    edge("38 all", TWENTY + "inForceShare() -> 1.0\n");
    edge("38 none", TWENTY + "move(0, 9) -> 4\ninForceShare() -> 0.0\n");
    edge("38 as a float, not rounded", one + """
        issueByRegistry(0, 9) -> 0
        move(0, 6) -> 5
        2x issueByRegistry(0, 9) -> *
        inForceShare() -> 0.6666667
        """);
    edge("38 one of twenty", one + "19x issueByRegistry(0, 9) -> *\nmove(0, 6) -> 5\n"
        + "issueByRegistry(0, 9) -> 19\ninForceShare() -> 0.05\n");
  }

  // ---- 39 to 44: texts and output lines

  private static void feeding() {
    edge("39 the first character", "feed('p') -> 1\n");
    edge("39 the sixtieth character is the last", "59x feed('1') -> *\nfeed('1') -> 60\n"
        + "feed('1') -> throws.IllegalStateException\n");
    edge("39 any character, from 0 to 65535", """
        feed(0) -> 1
        feed(10) -> 2
        feed(127) -> 3
        feed(128) -> 4
        feed(255) -> 5
        feed(256) -> 6
        feed(32767) -> 7
        feed(32768) -> 8
        feed(65535) -> 9
        """);
    edge("39 and 40 a full buffer is read to its end",
        "run put 0;put 1;put 2;put 3;put 4;put 5;put 6;put 7;put 8;put 10 -> 10\nfieldOf(9) -> 10\n");
    edge("39 and 40 after a refused character the sixty are left",
        "type put 0;put 1;put 2;put 3;put 4;put 5;put 6;put 7;put 8;put 10\n"
        + "feed('9') -> throws.IllegalStateException\nexecute() -> 10\nfieldOf(9) -> 10\n");
    edge("39 and 40 there is room again after execute", """
        60x feed('1') -> *
        execute() -> throws.IllegalArgumentException
        59x feed('1') -> *
        feed('1') -> 60
        """);
    edge("39 characters are told apart beyond 255", """
        type pu
        feed(372) -> 3
        execute() -> throws.IllegalArgumentException
        faultPosition() -> 2
        """);
  }

  private static void numbersInTexts() {
    edge("40 one digit and two", "run put 7;put 07;put 12 -> throws.UnsupportedOperationException\n"
        + "denialDetail() -> 1\ndenialCause() -> 2\nrun put 7;put 08;put 12 -> 3\nfieldOf(1) -> 8\n");
    edge("40 and 2 the first field and the last", "run put 0;put 15 -> 2\nfieldOf(0) -> 0\nfieldOf(1) -> 15\n");
    edge("40 and 2 a field above the last", """
        run put 16 -> throws.UnsupportedOperationException
        denialCause() -> 7
        """);
    edge("40 and 3 the first field and the last", "run put 3;move 0>0;move 0>15 -> 3\nfieldOf(0) -> 15\n");
    edge("40, 3, 4 and 15 the digits 0 and 9", TEN + """
        run move 9>15;move 0>14 -> 2
        fieldOf(9) -> 15
        fieldOf(0) -> 14
        run revoke 0;revoke 9;restore 0 -> 3
        isRevoked(0) -> false
        isRevoked(9) -> true
        run restore 9;root 9 5;issue 9>0 5;issue 0>9 5 -> 4
        subjectOf(0) -> 9
        issuerOf(1) -> 9
        subjectOf(1) -> 0
        issuerOf(2) -> 0
        """);
    edge("40, 14 and 15 the fewest days and the most", """
        run put 0;put 1;root 0 99;root 0 0;issue 0>1 99;issue 0>1 0 -> 6
        lastDayOf(0) -> 99
        lastDayOf(1) -> 0
        lastDayOf(2) -> 99
        lastDayOf(3) -> 0
        """);
    edge("40 and 16 the first of twenty and the last", TWENTY + """
        run drop 19;drop 0 -> 2
        certificateCount() -> 18
        lastDayOf(0) -> 1
        lastDayOf(17) -> 18
        run drop 18 -> throws.UnsupportedOperationException
        denialCause() -> 7
        """);
    edge("40 and 25 the fewest grains and the most", """
        run sow 0 1;sow 15 90 -> 2
        grains(0) -> 10
        grains(15) -> 99
        run sow 0 0 -> throws.UnsupportedOperationException
        denialCause() -> 7
        run sow 0 99 -> throws.UnsupportedOperationException
        denialCause() -> 1
        """);
    edge("40 and 26 the fewest days and the most", """
        run wait 1;wait 60 -> 2
        day() -> 61
        run wait 0 -> throws.UnsupportedOperationException
        denialCause() -> 7
        run wait 61 -> throws.UnsupportedOperationException
        denialCause() -> 7
        day() -> 61
        """);
    edge("40 the digits are 0 to 9", """
        run put / -> throws.IllegalArgumentException
        faultPosition() -> 4
        run put : -> throws.IllegalArgumentException
        faultPosition() -> 4
        run put 1/ -> throws.IllegalArgumentException
        faultPosition() -> 5
        run put 1: -> throws.IllegalArgumentException
        faultPosition() -> 5
        run revoke : -> throws.IllegalArgumentException
        faultPosition() -> 7
        run revoke / -> throws.IllegalArgumentException
        faultPosition() -> 7
        """);
  }

  private static void textsAllOrNone() {
    edge("40 one command", "run put 3 -> 1\nfieldOf(0) -> 3\n");
    edge("40 the commands in their order", """
        run put 3;move 0>4;put 3;root 0 9;issue 0>1 9;move 0>5 -> 6
        fieldOf(0) -> 5
        fieldOf(1) -> 3
        inForceCount() -> 0
        addressOf(0) -> 4
        """);
    edge("40 a command sees what those before it did", """
        run wait 5;put 3;root 0 9;drop 0;put 4 -> 5
        certificateCount() -> 0
        scarecrowCount() -> 2
        day() -> 5
        """);
    edge("40 none if the last one fails", """
        run put 3;wait 5;put 3 -> throws.UnsupportedOperationException
        scarecrowCount() -> 0
        day() -> 0
        grains(7) -> 9
        """);
    edge("40 none if the first one fails", """
        run drop 0;put 3 -> throws.UnsupportedOperationException
        denialDetail() -> 0
        scarecrowCount() -> 0
        """);
    edge("40 none if the text faults at its end", """
        run put 3;wait 5; -> throws.IllegalArgumentException
        scarecrowCount() -> 0
        day() -> 0
        """);
    edge("40 the buffer is empty after the commands", "run put 3 -> 1\nfeed('x') -> 1\n");
    edge("40 the buffer is empty after a denial", """
        run drop 0 -> throws.UnsupportedOperationException
        feed('x') -> 1
        """);
    edge("40 the buffer is empty after a fault", """
        run drop -> throws.IllegalArgumentException
        feed('x') -> 1
        """);
    edge("40 an empty text", """
        execute() -> throws.IllegalArgumentException
        faultPosition() -> 0
        undoCount() -> 0
        """);
    edge("40 and 48 a text is one change", """
        run put 3;put 4;wait 5 -> 3
        undoCount() -> 1
        undo() -> 0
        scarecrowCount() -> 0
        day() -> 0
        """);
    edge("40 and 48 a text that fails is no change", """
        register(3) -> 0
        run wait 5;put 3 -> throws.UnsupportedOperationException
        undoCount() -> 1
        undo() -> 0
        scarecrowCount() -> 0
        """);
    edge("40 and 48 a text that faults is no change", """
        register(3) -> 0
        run wait 5;put -> throws.IllegalArgumentException
        undoCount() -> 1
        undo() -> 0
        scarecrowCount() -> 0
        """);
  }

  private static void fullTexts() {
    edge("40 ten commands are the most that sixty characters hold",
        "run put 0;put 1;put 2;put 3;put 4;put 5;put 6;put 7;put 8;put 9 -> 10\nscarecrowCount() -> 10\n");
    edge("40 the eleventh has no room",
        "run put 0;put 1;put 2;put 3;put 4;put 5;put 6;put 7;put 8;put 9; -> throws.IllegalArgumentException\n"
        + "faultPosition() -> 60\nscarecrowCount() -> 0\n");
    edge("41 the fault is the last of sixty characters",
        "run put 0;put 1;put 2;put 3;put 4;put 5;put 6;put 7;put 8;put 1x -> throws.IllegalArgumentException\n"
        + "faultPosition() -> 59\n");
    edge("41 sixty characters that end too early",
        "run put 0;put 1;put 2;put 3;put 4;put 5;put 6;put 7;put 8;issue  -> throws.IllegalArgumentException\n"
        + "faultPosition() -> 60\n");
    edge("41 sixty characters that fault at the first",
        "60x feed('1') -> *\nexecute() -> throws.IllegalArgumentException\nfaultPosition() -> 0\n");
  }

  private static void faults() {
    String[] commands = {
        "put 12", "move 3>12", "revoke 3", "restore 3", "root 3 12", "issue 3>4 12", "drop 12", "sow 12 34",
        "wait 12"};
    for (String command : commands) {
      for (int length = 0; length < command.length(); length++) {
        String start = command.substring(0, length);
        boolean isWhole = start.endsWith("1") && length == command.length() - 1
            || start.equals("sow 12 3");
        if (!isWhole) {
          fault("41 too early an end", start, length);
        }
        // None of these signs stands anywhere in the grammar.
        fault("41 a sign that continues nothing", start + "#" + command.substring(length), length);
        fault("41 a small letter made large", start + (char) (command.charAt(length) ^ 0x20)
            + command.substring(length + 1), length);
      }
      fault("41 a sign too many", command + "1", command.length());
      fault("41 a space too many at the end", command + " ", command.length());
      fault("41 a space too many at the beginning", " " + command, 0);
      fault("41 an end after the semicolon", command + ";", command.length() + 1);
      fault("41 two semicolons", command + ";;" + command, command.length() + 1);
      fault("41 a space after the semicolon", command + "; " + command, command.length() + 1);
      fault("41 the second command", "wait 1;" + command + "#", command.length() + 7);
      int space = command.indexOf(' ');
      fault("41 two spaces for one", command.substring(0, space) + " " + command.substring(space), space + 1);
      fault("41 no space", command.substring(0, space) + command.substring(space + 1), space);
    }
    fault("41 a semicolon at the beginning", ";put 1", 0);
    fault("41 a number of three digits", "put 123", 6);
    fault("41 a scarecrow of two digits, to move", "move 12>3", 6);
    fault("41 a scarecrow of two digits, to revoke", "revoke 12", 8);
    fault("41 a scarecrow of two digits, to restore", "restore 12", 9);
    fault("41 a scarecrow of two digits, as a root", "root 12 3", 6);
    fault("41 a scarecrow of two digits, as an issuer", "issue 12>3 4", 7);
    fault("41 a scarecrow of two digits, as a subject", "issue 1>23 4", 9);
    fault("41 a negative number", "put -1", 4);
    fault("41 a number with a sign", "sow 1 +1", 6);
    fault("41 the words that begin with re", "rest 1", 4);
    fault("41 where the words that begin with r part", "rx", 1);
    fault("41 where the words that begin with re part", "rex", 2);
    fault("41 a word of another one's end", "revore 1", 4);
    edge("41 none was kept yet", """
        faultPosition() -> throws.NoSuchElementException
        run put 3 -> 1
        run put 3 -> throws.UnsupportedOperationException
        faultPosition() -> throws.NoSuchElementException
        """);
    edge("41 the one that was kept last", """
        run put x -> throws.IllegalArgumentException
        run p -> throws.IllegalArgumentException
        faultPosition() -> 1
        execute() -> throws.IllegalArgumentException
        faultPosition() -> 0
        """);
    edge("41 kept through all that follows", """
        run put x -> throws.IllegalArgumentException
        run put 3 -> 1
        run put 3 -> throws.UnsupportedOperationException
        register(16) -> throws.IllegalArgumentException
        saveSnapshot() -> 1
        undo() -> 0
        restoreSnapshot() -> 1
        type ab
        faultPosition() -> 4
        """);
  }

  private static void certificateLines() {
    edge("42 the registry as the issuer, in force", """
        register(0) -> 0
        issueByRegistry(0, 0) -> 0
        writeCertificate(0) -> 8
        line -> R>0@0<0!
        """);
    edge("42 not in force", """
        register(0) -> 0
        issueByRegistry(0, 0) -> 0
        move(0, 1) -> 0
        writeCertificate(0) -> 7
        line -> R>0@0<0
        """);
    edge("42 not in force by its issuer alone", """
        register(0) -> 0
        register(1) -> 1
        issueByRegistry(0, 9) -> 0
        issue(0, 1, 9) -> 1
        setRevoked(0, true) -> 0
        writeCertificate(0) -> 8
        line -> R>0@0<9!
        writeCertificate(1) -> 7
        line -> 0>1@1<9
        """);
    edge("42 a scarecrow as the issuer, the last field, two digits", """
        register(0) -> 0
        register(15) -> 1
        issueByRegistry(0, 9) -> 0
        issue(0, 1, 99) -> 1
        writeCertificate(1) -> 10
        line -> 0>1@15<99!
        """);
    edge("42 the document's example", """
        register(0) -> 0
        register(1) -> 1
        register(2) -> 2
        register(12) -> 3
        issueByRegistry(0, 40) -> 0
        issue(0, 3, 40) -> 1
        writeCertificate(1) -> 10
        line -> 0>3@12<40!
        """);
    edge("42 the first of twenty and the last", TWENTY + """
        writeCertificate(-1) -> throws.IndexOutOfBoundsException
        writeCertificate(0) -> 8
        line -> R>0@4<0!
        writeCertificate(19) -> 9
        line -> R>0@4<19!
        writeCertificate(20) -> throws.IndexOutOfBoundsException
        line -> R>0@4<19!
        """);
    edge("42 the first scarecrow and the tenth", TEN + """
        issueByRegistry(9, 9) -> 0
        issue(9, 0, 9) -> 1
        writeCertificate(0) -> 8
        line -> R>9@9<9!
        writeCertificate(1) -> 8
        line -> 9>0@0<9!
        """);
    edge("42 a last day of three digits", """
        pass(1) -> 1
        register(0) -> 0
        issueByRegistry(0, 98) -> 0
        issueByRegistry(0, 99) -> 1
        writeCertificate(0) -> 9
        line -> R>0@0<99!
        writeCertificate(1) -> 10
        line -> R>0@0<100!
        """);
    edge("42 the subject is revoked", """
        register(0) -> 0
        issueByRegistry(0, 9) -> 0
        setRevoked(0, true) -> 0
        writeCertificate(0) -> 8
        line -> R>0@0<9!
        """);
  }

  private static void fieldLines() {
    edge("43 no scarecrows", "writeFields() -> 19\nline -> ..../..../..../....\n");
    edge("43 the first field and the last", """
        register(0) -> 0
        register(15) -> 1
        writeFields() -> 19
        line -> S.../..../..../...S
        """);
    edge("43 both ends of each row", """
        register(3) -> 0
        register(4) -> 1
        register(7) -> 2
        register(8) -> 3
        register(11) -> 4
        register(12) -> 5
        writeFields() -> 19
        line -> ...S/S..S/S..S/S...
        """);
    edge("43 the document's example", """
        register(1) -> 0
        register(5) -> 1
        register(12) -> 2
        register(10) -> 3
        setRevoked(2, true) -> 0
        issueByRegistry(1, 9) -> 0
        writeFields() -> 19
        line -> .S../+C+./.+S./R...
        """);
    edge("43 a revoked one that is guarded is told as revoked", """
        register(5) -> 0
        register(6) -> 1
        issueByRegistry(0, 9) -> 0
        issueByRegistry(1, 9) -> 1
        setRevoked(1, true) -> 1
        writeFields() -> 19
        line -> .+../+CR./.+../....
        """);
    edge("43 one that is guarded and not certified", """
        register(5) -> 0
        register(6) -> 1
        issueByRegistry(0, 9) -> 0
        writeFields() -> 19
        line -> .+../+CS./.+../....
        """);
    edge("43 all sixteen fields are guarded", """
        register(1) -> 0
        register(7) -> 1
        register(8) -> 2
        register(14) -> 3
        """ + Scripts.counted("issueByRegistry(#, 9) -> #", 4) + """
        writeFields() -> 19
        line -> +C++/+++C/C+++/++C+
        """);
    edge("43 ten scarecrows", TEN + "writeFields() -> 19\nline -> SSSS/SSSS/SS../....\n");
  }

  private static void lineCharacters() {
    edge("44 initially empty", "lineCharacter(0) -> throws.IndexOutOfBoundsException\n"
        + "lineCharacter(-1) -> throws.IndexOutOfBoundsException\n");
    edge("44 the first character and the last", """
        register(0) -> 0
        register(15) -> 1
        setRevoked(1, true) -> 0
        writeFields() -> 19
        lineCharacter(-1) -> throws.IndexOutOfBoundsException
        lineCharacter(0) -> 'S'
        lineCharacter(18) -> 'R'
        lineCharacter(19) -> throws.IndexOutOfBoundsException
        """);
    edge("44 a shorter line leaves nothing of the longer one", """
        register(0) -> 0
        issueByRegistry(0, 9) -> 0
        writeFields() -> 19
        writeCertificate(0) -> 8
        lineCharacter(7) -> '!'
        lineCharacter(8) -> throws.IndexOutOfBoundsException
        """);
    edge("44 a longer line replaces the shorter one", """
        register(0) -> 0
        issueByRegistry(0, 9) -> 0
        writeCertificate(0) -> 8
        writeFields() -> 19
        line -> C+../+.../..../....
        """);
    edge("44 the line stays as it was written", """
        register(0) -> 0
        writeFields() -> 19
        move(0, 1) -> 0
        line -> S.../..../..../....
        """);
    edge("44 the line stays through undo and snapshots", """
        register(0) -> 0
        saveSnapshot() -> 1
        writeFields() -> 19
        undo() -> 0
        line -> S.../..../..../....
        restoreSnapshot() -> 1
        line -> S.../..../..../....
        """);
  }

  // ---- 45 to 51: the latest denial, undo and snapshots

  private static void denials() {
    edge("45, 46 and 47 nothing was denied yet", """
        denial() -> throws.NoSuchElementException
        denialDetail() -> throws.NoSuchElementException
        denialCause() -> throws.NoSuchElementException
        """);
    edge("45 other exceptions are no denials", """
        register(16) -> throws.IllegalArgumentException
        move(0, 0) -> throws.IndexOutOfBoundsException
        undo() -> throws.IllegalStateException
        meanDaysLeft() -> throws.ArithmeticException
        scarecrowOn(0) -> throws.NoSuchElementException
        execute() -> throws.IllegalArgumentException
        denial() -> throws.NoSuchElementException
        denialDetail() -> throws.NoSuchElementException
        denialCause() -> throws.NoSuchElementException
        """);
    edge("46 the detail 0 is a detail", """
        register(0) -> 0
        register(0) -> throws.UnsupportedOperationException
        denialDetail() -> 0
        """);
    edge("47 only denial 6 has a cause", """
        register(0) -> 0
        run put 0 -> throws.UnsupportedOperationException
        denialCause() -> 2
        register(0) -> throws.UnsupportedOperationException
        denial() -> 2
        denialCause() -> throws.NoSuchElementException
        """);
    edge("45, 46 and 47 kept until the next denial", """
        register(0) -> 0
        run put 1;put 0 -> throws.UnsupportedOperationException
        register(2) -> 1
        register(16) -> throws.IllegalArgumentException
        run put 3 -> 1
        run put -> throws.IllegalArgumentException
        saveSnapshot() -> 3
        undo() -> 2
        restoreSnapshot() -> 3
        denial() -> 6
        denialDetail() -> 1
        denialCause() -> 2
        """);
    String[] causes = {
        "put 16=7", "put 0=2", "move 0>0=2", "move 9>0=7", "restore 0=5", "revoke 9=7", "root 9 0=7",
        "issue 1>0 9=3", "issue 0>0 9=4", "issue 1>1 9=4", "issue 0>9 9=7", "drop 1=7", "sow 0 91=1",
        "sow 16 1=7", "sow 0 0=7", "wait 0=7", "wait 61=7"};
    for (String cause : causes) {
      String command = cause.substring(0, cause.indexOf('='));
      edge("47 the cause of " + command, """
          register(0) -> 0
          register(1) -> 1
          issueByRegistry(0, 9) -> 0
          run COMMAND -> throws.UnsupportedOperationException
          denial() -> 6
          denialDetail() -> 0
          denialCause() -> CAUSE
          """.replace("COMMAND", command).replace("CAUSE", cause.substring(cause.indexOf('=') + 1)));
    }
    edge("47 the cause 1 by ten scarecrows", TEN + """
        run put 12 -> throws.UnsupportedOperationException
        denialCause() -> 1
        """);
    edge("47 the cause 1 by twenty certificates", TWENTY + """
        run root 0 9 -> throws.UnsupportedOperationException
        denialCause() -> 1
        run issue 0>1 9 -> throws.UnsupportedOperationException
        denialCause() -> 1
        """);
    edge("47 a cause of before is not the cause of now", """
        register(0) -> 0
        register(0) -> throws.UnsupportedOperationException
        run drop 0 -> throws.UnsupportedOperationException
        denialCause() -> 7
        """);
  }

  private static void undoing() {
    edge("48 nothing to undo", "undo() -> throws.IllegalStateException\nundoCount() -> 0\n");
    edge("48 the only change", "register(0) -> 0\nundo() -> 0\nscarecrowCount() -> 0\n"
        + "undo() -> throws.IllegalStateException\n");
    edge("49 eight changes", "8x pass(1) -> *\nundoCount() -> 8\n");
    edge("49 nine changes", "9x pass(1) -> *\nundoCount() -> 8\n");
    edge("48 eight changes are undone to the beginning", "8x pass(1) -> *\n" + undone(8)
        + "day() -> 0\nundo() -> throws.IllegalStateException\n");
    edge("48 of nine changes the first is forgotten", "9x pass(1) -> *\n" + undone(8)
        + "day() -> 1\nundo() -> throws.IllegalStateException\nday() -> 1\n");
    for (int changes = 10; changes <= 26; changes += 4) {
      edge("48 of " + changes + " changes eight are undone", changes + "x pass(1) -> *\n" + undone(8)
          + "day() -> " + (changes - 8) + "\nundo() -> throws.IllegalStateException\n");
    }
    edge("48 the latest change comes first", "pass(1) -> 1\npass(10) -> 10\npass(30) -> 30\nundo() -> 2\n"
        + "day() -> 11\nundo() -> 1\nday() -> 1\nundo() -> 0\nday() -> 0\n");
    edge("48 and on with new changes", """
        9x pass(1) -> *
        undo() -> 7
        undo() -> 6
        day() -> 7
        2x pass(20) -> *
        undoCount() -> 8
        pass(20) -> *
        undoCount() -> 8
        """ + undone(8) + "day() -> 2\nundo() -> throws.IllegalStateException\n");
    String[] changes = {
        "register(9) -> 3", "move(0, 15) -> 0", "setRevoked(0, true) -> 0", "setRevoked(2, false) -> 2",
        "issueByRegistry(1, 9) -> 2", "issue(0, 1, 9) -> 2", "withdraw(0) -> 0", "sow(3, 90) -> 99",
        "pass(60) -> *", "run put 9;move 0>15;drop 0;wait 60;sow 3 1;revoke 1 -> 6"};
    for (String change : changes) {
      SCRIPTS.leavesAsItWas("48 undone: " + change, """
          register(0) -> 0
          register(4) -> 1
          register(8) -> 2
          issueByRegistry(0, 7) -> 0
          issue(0, 1, 8) -> 1
          setRevoked(2, true) -> 2
          saveSnapshot() -> 3
          """, change + "\nundo() -> 6", "");
      edge("49 a change: " + change, """
          register(0) -> 0
          register(4) -> 1
          register(8) -> 2
          issueByRegistry(0, 7) -> 0
          issue(0, 1, 8) -> 1
          setRevoked(2, true) -> 2
          undoCount() -> 6
          """ + change + "\nundoCount() -> 7\nundo() -> 6\n" + """
          scarecrowCount() -> 3
          fieldOf(0) -> 0
          isRevoked(0) -> false
          isRevoked(2) -> true
          certificateCount() -> 2
          subjectOf(0) -> 0
          lastDayOf(0) -> 7
          subjectOf(1) -> 1
          grains(3) -> 9
          day() -> 0
          eaten() -> 0
          sown() -> 0
          totalGrains() -> 144
          """);
    }
  }

  private static void whatIsNoChange() {
    edge("49 answers are no changes", """
        register(0) -> 0
        issueByRegistry(0, 9) -> 0
        predictEaten(60) -> *
        daysUntilUncertified(0) -> 10
        chainLength(0) -> 1
        writeFields() -> 19
        writeCertificate(0) -> 8
        feed('x') -> 1
        saveSnapshot() -> 1
        undoCount() -> 2
        """);
    edge("49 and 48 an undo is no change", "3x pass(1) -> *\nundo() -> 2\nundo() -> 1\nundoCount() -> 1\n");
    edge("48 the text buffer is not affected", "pass(1) -> 1\ntype put 3\nundo() -> 0\nexecute() -> 1\n"
        + "scarecrowCount() -> 1\n");
    edge("48 an executed text does not come back", "run put 3 -> 1\nundo() -> 0\nfeed('x') -> 1\n");
    edge("48 the fault position is not affected", """
        pass(1) -> 1
        run put x -> throws.IllegalArgumentException
        undo() -> 0
        faultPosition() -> 4
        """);
    edge("48 the latest denial is not affected", """
        register(0) -> 0
        register(0) -> throws.UnsupportedOperationException
        undo() -> 0
        denial() -> 2
        denialDetail() -> 0
        """);
  }

  private static void snapshots() {
    edge("50 of a new object", "saveSnapshot() -> 0\nregister(0) -> 0\npass(9) -> 9\nrestoreSnapshot() -> 0\n"
        + "scarecrowCount() -> 0\nday() -> 0\ntotalGrains() -> 144\n");
    edge("50 of ten scarecrows", TEN + "saveSnapshot() -> 10\n");
    edge("50 and 51 of twenty certificates", TWENTY + """
        saveSnapshot() -> 2
        20x withdraw(0) -> *
        restoreSnapshot() -> 2
        certificateCount() -> 20
        inForceCount() -> 20
        lastDayOf(0) -> 0
        lastDayOf(19) -> 19
        """);
    edge("50 no change is lost by saving", "3x pass(1) -> *\nsaveSnapshot() -> 0\nundoCount() -> 3\n"
        + "undo() -> 2\nday() -> 2\n");
    edge("50 it replaces an earlier one", """
        register(0) -> 0
        saveSnapshot() -> 1
        register(1) -> 1
        saveSnapshot() -> 2
        register(2) -> 2
        restoreSnapshot() -> 2
        scarecrowCount() -> 2
        """);
    edge("50 later changes do not reach it", """
        register(0) -> 0
        issueByRegistry(0, 9) -> 0
        saveSnapshot() -> 1
        move(0, 5) -> 0
        setRevoked(0, true) -> 0
        withdraw(0) -> 0
        sow(3, 4) -> 13
        pass(9) -> *
        restoreSnapshot() -> 1
        fieldOf(0) -> 0
        isRevoked(0) -> false
        certificateCount() -> 1
        isCertified(0) -> true
        grains(3) -> 9
        grains(7) -> 9
        day() -> 0
        eaten() -> 0
        sown() -> 0
        """);
    edge("50 an undo does not reach it", "register(0) -> 0\nsaveSnapshot() -> 1\nundo() -> 0\n"
        + "scarecrowCount() -> 0\nrestoreSnapshot() -> 1\nscarecrowCount() -> 1\n");
    edge("51 no snapshot", "register(0) -> 0\nrestoreSnapshot() -> throws.IllegalStateException\n"
        + "scarecrowCount() -> 1\nundoCount() -> 1\n");
    edge("51 it is kept", """
        register(0) -> 0
        saveSnapshot() -> 1
        move(0, 5) -> 0
        restoreSnapshot() -> 1
        move(0, 6) -> 0
        pass(5) -> *
        restoreSnapshot() -> 1
        fieldOf(0) -> 0
        day() -> 0
        """);
    edge("51 no change can be undone afterwards", """
        9x pass(1) -> *
        saveSnapshot() -> 0
        restoreSnapshot() -> 0
        undoCount() -> 0
        undo() -> throws.IllegalStateException
        day() -> 9
        """);
    edge("51 and 48 eight new changes can be undone after it", "5x pass(1) -> *\nsaveSnapshot() -> 0\n"
        + "4x pass(1) -> *\nrestoreSnapshot() -> 0\n9x pass(2) -> *\nundoCount() -> 8\n" + undone(8)
        + "day() -> 7\nundo() -> throws.IllegalStateException\n");
    edge("51 the text buffer is not affected", "saveSnapshot() -> 0\ntype put 3\nrestoreSnapshot() -> 0\n"
        + "execute() -> 1\n");
    edge("51 a fault and a denial are not affected", """
        saveSnapshot() -> 0
        run put x -> throws.IllegalArgumentException
        run put 3;put 3 -> throws.UnsupportedOperationException
        restoreSnapshot() -> 0
        faultPosition() -> 4
        denial() -> 6
        denialDetail() -> 1
        denialCause() -> 2
        """);
  }

  // ---- the scripts

  private static void edge(String name, String script) {
    SCRIPTS.holds(name, script);
  }

  private static void certified(String name, String script, boolean first, boolean second, boolean third) {
    edge(name, script + """
        isCertified(0) -> FIRST
        isCertified(1) -> SECOND
        isCertified(2) -> THIRD
        isCertifiedByChains(0) -> FIRST
        isCertifiedByChains(1) -> SECOND
        isCertifiedByChains(2) -> THIRD
        """.replace("FIRST", "" + first).replace("SECOND", "" + second).replace("THIRD", "" + third));
  }

  private static void fault(String name, String text, int position) {
    edge(name + ": '" + text + "'", "run " + text + " -> throws.IllegalArgumentException\nfaultPosition() -> "
        + position + "\nscarecrowCount() -> 0\nundoCount() -> 0\nfeed('x') -> 1\n");
  }

  private static String undone(int changes) {
    StringBuilder script = new StringBuilder();
    for (int left = changes - 1; left >= 0; left--) {
      script.append("undo() -> ").append(left).append('\n');
    }
    return script.toString();
  }
}
