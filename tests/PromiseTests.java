/**
 * At least one script for each promise of the document: ordinary inputs, the edges that the document
 * names, and wrong inputs. How a script is written is told in support/Scripts.java.
 */
public final class PromiseTests {
  private static final Scripts SCRIPTS = new Scripts("promises");

  public static void main(String[] args) {
    scarecrows();
    certification();
    certificates();
    grainsAndDays();
    guarding();
    shares();
    texts();
    lines();
    denials();
    undoAndSnapshots();
    objectsAreApart();
    SCRIPTS.end();
  }

  // ---- the promises

  private static void scarecrows() {
    promise("1 a new object", """
        scarecrowCount() -> 0
        certificateCount() -> 0
        inForceCount() -> 0
        day() -> 0
        nextLook() -> 7
        totalGrains() -> 144
        eaten() -> 0
        sown() -> 0
        grains(0) -> 9
        grains(15) -> 9
        guardedFields() -> 0
        guardedFieldsByScarecrows() -> 0
        isGuarded(0) -> false
        fieldOf(0) -> throws.IndexOutOfBoundsException
        scarecrowOn(0) -> throws.NoSuchElementException
        addressOf(0) -> throws.IndexOutOfBoundsException
        meanDaysLeft() -> throws.ArithmeticException
        inForceShare() -> throws.ArithmeticException
        faultPosition() -> throws.NoSuchElementException
        lineCharacter(0) -> throws.IndexOutOfBoundsException
        denial() -> throws.NoSuchElementException
        denialDetail() -> throws.NoSuchElementException
        denialCause() -> throws.NoSuchElementException
        undoCount() -> 0
        undo() -> throws.IllegalStateException
        restoreSnapshot() -> throws.IllegalStateException
        feed('a') -> 1
        """);
    promise("2 register", """
        register(-1) -> throws.IllegalArgumentException
        register(16) -> throws.IllegalArgumentException
        register(-2147483648) -> throws.IllegalArgumentException
        register(2147483647) -> throws.IllegalArgumentException
        scarecrowCount() -> 0
        undoCount() -> 0
        denial() -> throws.NoSuchElementException
        register(0) -> 0
        register(15) -> 1
        isCertified(0) -> false
        isRevoked(1) -> false
        register(15) -> throws.UnsupportedOperationException
        denial() -> 2
        denialDetail() -> 1
        denialCause() -> throws.NoSuchElementException
        register(0) -> throws.UnsupportedOperationException
        denialDetail() -> 0
        scarecrowCount() -> 2
        undoCount() -> 2
        """);
    promise("2 register, ten scarecrows", counted("register(#) -> #", 10) + """
        register(9) -> throws.UnsupportedOperationException
        denial() -> 1
        denialDetail() -> 10
        register(12) -> throws.UnsupportedOperationException
        denial() -> 1
        denialDetail() -> 10
        register(16) -> throws.IllegalArgumentException
        register(-1) -> throws.IllegalArgumentException
        scarecrowCount() -> 10
        undo() -> 7
        register(12) -> 9
        """);
    promise("3 move", """
        move(0, 0) -> throws.IndexOutOfBoundsException
        register(3) -> 0
        register(5) -> 1
        move(2, 16) -> throws.IndexOutOfBoundsException
        move(-1, -1) -> throws.IndexOutOfBoundsException
        move(2, 3) -> throws.IndexOutOfBoundsException
        move(1, 16) -> throws.IllegalArgumentException
        move(0, -1) -> throws.IllegalArgumentException
        move(0, 3) -> throws.UnsupportedOperationException
        denial() -> 2
        denialDetail() -> 0
        move(0, 5) -> throws.UnsupportedOperationException
        denial() -> 2
        denialDetail() -> 1
        fieldOf(0) -> 3
        undoCount() -> 2
        move(0, 15) -> 3
        move(1, 3) -> 5
        move(0, 0) -> 15
        fieldOf(0) -> 0
        fieldOf(1) -> 3
        scarecrowOn(15) -> throws.NoSuchElementException
        undoCount() -> 5
        """);
    promise("4 setRevoked", """
        setRevoked(0, true) -> throws.IndexOutOfBoundsException
        register(0) -> 0
        register(1) -> 1
        register(2) -> 2
        setRevoked(-1, false) -> throws.IndexOutOfBoundsException
        setRevoked(3, true) -> throws.IndexOutOfBoundsException
        denial() -> throws.NoSuchElementException
        setRevoked(0, false) -> throws.UnsupportedOperationException
        denial() -> 5
        denialDetail() -> 0
        issueByRegistry(0, 9) -> 0
        issue(0, 1, 9) -> 1
        issueByRegistry(2, 9) -> 2
        setRevoked(1, true) -> 2
        setRevoked(1, true) -> throws.UnsupportedOperationException
        denial() -> 5
        denialDetail() -> 1
        setRevoked(0, true) -> 1
        setRevoked(1, false) -> 1
        setRevoked(0, false) -> 3
        isRevoked(0) -> false
        """);
    promise("5 scarecrowCount", """
        scarecrowCount() -> 0
        register(7) -> 0
        scarecrowCount() -> 1
        register(7) -> throws.UnsupportedOperationException
        scarecrowCount() -> 1
        register(8) -> 1
        scarecrowCount() -> 2
        """);
    promise("6 fieldOf", """
        register(7) -> 0
        register(14) -> 1
        fieldOf(0) -> 7
        fieldOf(1) -> 14
        fieldOf(2) -> throws.IndexOutOfBoundsException
        fieldOf(-1) -> throws.IndexOutOfBoundsException
        fieldOf(10) -> throws.IndexOutOfBoundsException
        fieldOf(2147483647) -> throws.IndexOutOfBoundsException
        """);
    promise("7 scarecrowOn", """
        register(7) -> 0
        register(0) -> 1
        scarecrowOn(7) -> 0
        scarecrowOn(0) -> 1
        scarecrowOn(1) -> throws.NoSuchElementException
        scarecrowOn(16) -> throws.IllegalArgumentException
        scarecrowOn(-1) -> throws.IllegalArgumentException
        move(0, 15) -> 7
        scarecrowOn(7) -> throws.NoSuchElementException
        scarecrowOn(15) -> 0
        """);
    promise("8 isRevoked", """
        isRevoked(0) -> throws.IndexOutOfBoundsException
        register(7) -> 0
        register(0) -> 1
        isRevoked(1) -> false
        setRevoked(1, true) -> 0
        isRevoked(1) -> true
        isRevoked(0) -> false
        isRevoked(-1) -> throws.IndexOutOfBoundsException
        isRevoked(2) -> throws.IndexOutOfBoundsException
        isRevoked(33) -> throws.IndexOutOfBoundsException
        """);
  }

  private static void certification() {
    promise("9 and 10 isCertified, both ways", """
        isCertified(0) -> throws.IndexOutOfBoundsException
        isCertifiedByChains(0) -> throws.IndexOutOfBoundsException
        register(0) -> 0
        register(1) -> 1
        register(2) -> 2
        issueByRegistry(0, 9) -> 0
        issue(0, 1, 9) -> 1
        issue(1, 2, 9) -> 2
        isCertified(2) -> true
        isCertifiedByChains(2) -> true
        move(1, 9) -> 1
        isCertified(0) -> true
        isCertifiedByChains(0) -> true
        isCertified(1) -> false
        isCertifiedByChains(1) -> false
        isCertified(2) -> false
        isCertifiedByChains(2) -> false
        move(1, 1) -> 9
        isCertified(2) -> true
        isCertifiedByChains(2) -> true
        setRevoked(2, true) -> 2
        isCertified(2) -> false
        isCertifiedByChains(2) -> false
        isCertified(-1) -> throws.IndexOutOfBoundsException
        isCertifiedByChains(-1) -> throws.IndexOutOfBoundsException
        isCertified(3) -> throws.IndexOutOfBoundsException
        isCertifiedByChains(3) -> throws.IndexOutOfBoundsException
        """);
    promise("9 and 10 a circle does not certify itself", """
        register(0) -> 0
        register(1) -> 1
        register(2) -> 2
        issueByRegistry(0, 9) -> 0
        issue(0, 1, 9) -> 1
        issue(1, 2, 9) -> 2
        issue(2, 1, 9) -> 3
        issue(2, 0, 9) -> 4
        inForceCount() -> 5
        withdraw(0) -> 0
        certificateCount() -> 4
        inForceCount() -> 0
        isCertified(0) -> false
        isCertified(1) -> false
        isCertified(2) -> false
        isCertifiedByChains(0) -> false
        isCertifiedByChains(1) -> false
        isCertifiedByChains(2) -> false
        issueByRegistry(2, 9) -> 4
        inForceCount() -> 5
        isCertifiedByChains(1) -> true
        """);
    promise("9 and 10 one of several issuers is enough", """
        register(0) -> 0
        register(1) -> 1
        register(2) -> 2
        register(3) -> 3
        issueByRegistry(1, 9) -> 0
        issue(1, 3, 9) -> 1
        issueByRegistry(0, 9) -> 2
        issueByRegistry(2, 9) -> 3
        issue(2, 3, 9) -> 4
        issue(0, 3, 9) -> 5
        move(0, 15) -> 0
        move(2, 14) -> 2
        isCertified(3) -> true
        isCertifiedByChains(3) -> true
        withdraw(1) -> 3
        isCertified(3) -> false
        isCertifiedByChains(3) -> false
        move(2, 2) -> 14
        isCertified(3) -> true
        isCertifiedByChains(3) -> true
        move(2, 14) -> 2
        isCertifiedByChains(3) -> false
        move(0, 0) -> 15
        isCertified(3) -> true
        isCertifiedByChains(3) -> true
        """);
    promise("9, 10 and 24 after twenty certificates none is left", "register(0) -> 0\nregister(1) -> 1\n"
        + counted("issueByRegistry(1, 9) -> #", 20) + """
        isCertifiedByChains(1) -> true
        19x withdraw(0) -> 1
        isCertifiedByChains(1) -> true
        withdraw(0) -> 1
        isCertified(1) -> false
        isCertifiedByChains(1) -> false
        inForceCount() -> 0
        daysUntilUncertified(1) -> 0
        """);
    promise("9, 10 and 11 the longest chain, issued from its beginning",
        counted("register(#) -> #", 10) + """
        issueByRegistry(0, 9) -> 0
        issue(0, 1, 9) -> 1
        issue(1, 2, 9) -> 2
        issue(2, 3, 9) -> 3
        issue(3, 4, 9) -> 4
        issue(4, 5, 9) -> 5
        issue(5, 6, 9) -> 6
        issue(6, 7, 9) -> 7
        issue(7, 8, 9) -> 8
        issue(8, 9, 9) -> 9
        isCertified(9) -> true
        isCertifiedByChains(9) -> true
        chainLength(9) -> 10
        daysUntilUncertified(9) -> 10
        setRevoked(0, true) -> 0
        isCertifiedByChains(9) -> false
        """);
    promise("9, 10 and 11 the longest chain, issued from its end", counted("register(#) -> #", 10) + """
        issueByRegistry(8, 0) -> 0
        issue(8, 9, 99) -> 1
        issueByRegistry(7, 0) -> 2
        issue(7, 8, 99) -> 3
        issueByRegistry(6, 0) -> 4
        issue(6, 7, 99) -> 5
        issueByRegistry(5, 0) -> 6
        issue(5, 6, 99) -> 7
        issueByRegistry(4, 0) -> 8
        issue(4, 5, 99) -> 9
        issueByRegistry(3, 0) -> 10
        issue(3, 4, 99) -> 11
        issueByRegistry(2, 0) -> 12
        issue(2, 3, 99) -> 13
        issueByRegistry(1, 0) -> 14
        issue(1, 2, 99) -> 15
        issueByRegistry(0, 99) -> 16
        issue(0, 1, 99) -> 17
        chainLength(9) -> 2
        pass(1) -> 0
        certificateCount() -> 10
        chainLength(9) -> 10
        chainLength(5) -> 6
        chainLength(0) -> 1
        isCertified(9) -> true
        isCertifiedByChains(9) -> true
        inForceCount() -> 10
        daysUntilUncertified(9) -> 99
        withdraw(8) -> 0
        isCertified(9) -> false
        isCertifiedByChains(9) -> false
        """);
    promise("11 chainLength", """
        chainLength(0) -> throws.IndexOutOfBoundsException
        register(0) -> 0
        register(1) -> 1
        register(2) -> 2
        chainLength(0) -> throws.NoSuchElementException
        chainLength(-1) -> throws.IndexOutOfBoundsException
        chainLength(3) -> throws.IndexOutOfBoundsException
        issueByRegistry(0, 9) -> 0
        issue(0, 1, 9) -> 1
        issue(1, 2, 9) -> 2
        chainLength(0) -> 1
        chainLength(1) -> 2
        chainLength(2) -> 3
        issue(0, 2, 5) -> 3
        chainLength(2) -> 2
        issue(2, 1, 5) -> 4
        chainLength(1) -> 2
        issueByRegistry(2, 1) -> 5
        chainLength(2) -> 1
        pass(2) -> 2
        chainLength(2) -> 2
        setRevoked(2, true) -> 2
        chainLength(2) -> throws.NoSuchElementException
        """);
    promise("12 daysUntilUncertified", """
        daysUntilUncertified(0) -> throws.IndexOutOfBoundsException
        register(0) -> 0
        register(1) -> 1
        register(2) -> 2
        daysUntilUncertified(0) -> 0
        daysUntilUncertified(-1) -> throws.IndexOutOfBoundsException
        daysUntilUncertified(3) -> throws.IndexOutOfBoundsException
        issueByRegistry(0, 0) -> 0
        daysUntilUncertified(0) -> 1
        issueByRegistry(0, 99) -> 1
        daysUntilUncertified(0) -> 100
        issue(0, 1, 4) -> 2
        issue(1, 2, 9) -> 3
        daysUntilUncertified(1) -> 5
        daysUntilUncertified(2) -> 5
        issue(0, 2, 6) -> 4
        daysUntilUncertified(2) -> 7
        issueByRegistry(2, 3) -> 5
        daysUntilUncertified(2) -> 7
        pass(6) -> 4
        isCertified(2) -> true
        daysUntilUncertified(2) -> 1
        pass(1) -> 0
        isCertified(2) -> false
        daysUntilUncertified(2) -> 0
        daysUntilUncertified(0) -> 93
        setRevoked(0, true) -> 0
        daysUntilUncertified(0) -> 0
        setRevoked(0, false) -> 1
        move(0, 9) -> 0
        daysUntilUncertified(0) -> 0
        """);
    promise("13 scarecrowByCertificates", """
        scarecrowByCertificates(0) -> throws.NoSuchElementException
        register(0) -> 0
        register(1) -> 1
        register(2) -> 2
        register(3) -> 3
        scarecrowByCertificates(0) -> 0
        scarecrowByCertificates(3) -> 3
        scarecrowByCertificates(4) -> throws.NoSuchElementException
        scarecrowByCertificates(-1) -> throws.NoSuchElementException
        issueByRegistry(2, 9) -> 0
        issueByRegistry(2, 9) -> 1
        issue(2, 3, 9) -> 2
        issueByRegistry(1, 9) -> 3
        scarecrowByCertificates(0) -> 2
        scarecrowByCertificates(1) -> 1
        scarecrowByCertificates(2) -> 3
        scarecrowByCertificates(3) -> 0
        setRevoked(2, true) -> 1
        scarecrowByCertificates(0) -> 2
        scarecrowByCertificates(1) -> 1
        scarecrowByCertificates(2) -> 0
        scarecrowByCertificates(3) -> 3
        move(2, 8) -> 2
        scarecrowByCertificates(0) -> 1
        scarecrowByCertificates(1) -> 0
        scarecrowByCertificates(2) -> 2
        """);
  }

  private static void certificates() {
    promise("14 issueByRegistry", """
        issueByRegistry(0, 5) -> throws.IndexOutOfBoundsException
        register(4) -> 0
        issueByRegistry(1, 100) -> throws.IndexOutOfBoundsException
        issueByRegistry(-1, 5) -> throws.IndexOutOfBoundsException
        issueByRegistry(0, -1) -> throws.IllegalArgumentException
        issueByRegistry(0, 100) -> throws.IllegalArgumentException
        certificateCount() -> 0
        undoCount() -> 1
        issueByRegistry(0, 0) -> 0
        issueByRegistry(0, 99) -> 1
        lastDayOf(0) -> 0
        lastDayOf(1) -> 99
        isByRegistry(1) -> true
        subjectOf(1) -> 0
        addressOf(1) -> 4
        pass(3) -> 2
        issueByRegistry(0, 2) -> 1
        lastDayOf(1) -> 5
        setRevoked(0, true) -> 0
        issueByRegistry(0, 2) -> 2
        isInForce(2) -> true
        """);
    promise("14 issueByRegistry, twenty certificates", "register(4) -> 0\n"
        + counted("issueByRegistry(0, #) -> #", 20) + """
        issueByRegistry(0, 5) -> throws.UnsupportedOperationException
        denial() -> 1
        denialDetail() -> 20
        issueByRegistry(0, 100) -> throws.IllegalArgumentException
        issueByRegistry(1, 5) -> throws.IndexOutOfBoundsException
        certificateCount() -> 20
        lastDayOf(19) -> 19
        withdraw(0) -> 0
        lastDayOf(0) -> 1
        lastDayOf(18) -> 19
        lastDayOf(19) -> throws.IndexOutOfBoundsException
        issueByRegistry(0, 50) -> 19
        lastDayOf(19) -> 50
        """);
    promise("15 issue", """
        register(4) -> 0
        register(5) -> 1
        issue(2, 0, 100) -> throws.IndexOutOfBoundsException
        issue(0, 2, 5) -> throws.IndexOutOfBoundsException
        issue(-1, 0, 5) -> throws.IndexOutOfBoundsException
        issue(0, -1, 5) -> throws.IndexOutOfBoundsException
        issue(0, 0, 100) -> throws.IllegalArgumentException
        issue(0, 1, -1) -> throws.IllegalArgumentException
        denial() -> throws.NoSuchElementException
        issue(1, 1, 5) -> throws.UnsupportedOperationException
        denial() -> 4
        denialDetail() -> 1
        issue(1, 0, 5) -> throws.UnsupportedOperationException
        denial() -> 3
        denialDetail() -> 1
        certificateCount() -> 0
        issueByRegistry(0, 9) -> 0
        issue(0, 0, 5) -> throws.UnsupportedOperationException
        denial() -> 4
        denialDetail() -> 0
        issue(0, 1, 0) -> 1
        issue(0, 1, 99) -> 2
        isByRegistry(2) -> false
        issuerOf(2) -> 0
        subjectOf(2) -> 1
        addressOf(2) -> 5
        lastDayOf(1) -> 0
        lastDayOf(2) -> 99
        setRevoked(0, true) -> 0
        issue(0, 1, 5) -> throws.UnsupportedOperationException
        denial() -> 3
        denialDetail() -> 0
        """);
    promise("15 issue, twenty certificates", "register(4) -> 0\nregister(5) -> 1\nregister(6) -> 2\n"
        + counted("issueByRegistry(0, 9) -> #", 19) + """
        issue(0, 1, 9) -> 19
        issue(0, 1, 9) -> throws.UnsupportedOperationException
        denial() -> 1
        denialDetail() -> 20
        issue(2, 1, 9) -> throws.UnsupportedOperationException
        denial() -> 3
        denialDetail() -> 2
        issue(2, 2, 9) -> throws.UnsupportedOperationException
        denial() -> 4
        issue(0, 1, 100) -> throws.IllegalArgumentException
        certificateCount() -> 20
        """);
    promise("16 withdraw", """
        withdraw(0) -> throws.IndexOutOfBoundsException
        register(4) -> 0
        register(5) -> 1
        register(6) -> 2
        issueByRegistry(1, 1) -> 0
        issue(1, 2, 2) -> 1
        issueByRegistry(0, 3) -> 2
        withdraw(-1) -> throws.IndexOutOfBoundsException
        withdraw(3) -> throws.IndexOutOfBoundsException
        withdraw(1) -> 2
        certificateCount() -> 2
        subjectOf(0) -> 1
        subjectOf(1) -> 0
        addressOf(1) -> 4
        lastDayOf(1) -> 3
        isByRegistry(1) -> true
        subjectOf(2) -> throws.IndexOutOfBoundsException
        withdraw(1) -> 0
        withdraw(0) -> 1
        withdraw(0) -> throws.IndexOutOfBoundsException
        certificateCount() -> 0
        """);
    promise("17 certificateCount", """
        certificateCount() -> 0
        register(4) -> 0
        issueByRegistry(0, 0) -> 0
        issueByRegistry(0, 1) -> 1
        move(0, 5) -> 4
        certificateCount() -> 2
        pass(1) -> 1
        certificateCount() -> 1
        withdraw(0) -> 0
        certificateCount() -> 0
        """);
    promise("18 to 22 what a certificate holds", """
        isByRegistry(0) -> throws.IndexOutOfBoundsException
        issuerOf(0) -> throws.IndexOutOfBoundsException
        subjectOf(0) -> throws.IndexOutOfBoundsException
        addressOf(0) -> throws.IndexOutOfBoundsException
        lastDayOf(0) -> throws.IndexOutOfBoundsException
        register(12) -> 0
        register(15) -> 1
        pass(2) -> 2
        issueByRegistry(0, 7) -> 0
        issue(0, 1, 8) -> 1
        isByRegistry(0) -> true
        isByRegistry(1) -> false
        issuerOf(0) -> throws.NoSuchElementException
        issuerOf(1) -> 0
        subjectOf(0) -> 0
        subjectOf(1) -> 1
        addressOf(0) -> 12
        addressOf(1) -> 15
        lastDayOf(0) -> 9
        lastDayOf(1) -> 10
        move(1, 3) -> 15
        addressOf(1) -> 15
        isByRegistry(-1) -> throws.IndexOutOfBoundsException
        issuerOf(-1) -> throws.IndexOutOfBoundsException
        subjectOf(-1) -> throws.IndexOutOfBoundsException
        addressOf(-1) -> throws.IndexOutOfBoundsException
        lastDayOf(-1) -> throws.IndexOutOfBoundsException
        isByRegistry(2) -> throws.IndexOutOfBoundsException
        issuerOf(2) -> throws.IndexOutOfBoundsException
        subjectOf(2) -> throws.IndexOutOfBoundsException
        addressOf(2) -> throws.IndexOutOfBoundsException
        lastDayOf(2) -> throws.IndexOutOfBoundsException
        lastDayOf(20) -> throws.IndexOutOfBoundsException
        """);
    promise("23 and 24 isInForce, inForceCount", """
        isInForce(0) -> throws.IndexOutOfBoundsException
        inForceCount() -> 0
        register(4) -> 0
        register(5) -> 1
        issueByRegistry(0, 9) -> 0
        issue(0, 1, 9) -> 1
        isInForce(0) -> true
        isInForce(1) -> true
        isInForce(2) -> throws.IndexOutOfBoundsException
        isInForce(-1) -> throws.IndexOutOfBoundsException
        inForceCount() -> 2
        setRevoked(1, true) -> 1
        isInForce(1) -> true
        inForceCount() -> 2
        setRevoked(0, true) -> 0
        isInForce(0) -> true
        isInForce(1) -> false
        inForceCount() -> 1
        setRevoked(0, false) -> 1
        isInForce(1) -> true
        move(0, 6) -> 4
        isInForce(0) -> false
        isInForce(1) -> false
        inForceCount() -> 0
        certificateCount() -> 2
        move(0, 4) -> 6
        inForceCount() -> 2
        """);
    promise("24 certificates of a later day count on", """
        register(4) -> 0
        pass(60) -> 60
        issueByRegistry(0, 0) -> 0
        inForceCount() -> 1
        isCertified(0) -> true
        daysUntilUncertified(0) -> 1
        """);
  }

  private static void grainsAndDays() {
    promise("25 sow", """
        sow(-1, 5) -> throws.IllegalArgumentException
        sow(16, 5) -> throws.IllegalArgumentException
        sow(0, 0) -> throws.IllegalArgumentException
        sow(0, 100) -> throws.IllegalArgumentException
        sow(0, -5) -> throws.IllegalArgumentException
        sow(0, 2147483647) -> throws.IllegalArgumentException
        sow(0, 91) -> throws.UnsupportedOperationException
        denial() -> 1
        denialDetail() -> 99
        sow(0, 99) -> throws.UnsupportedOperationException
        grains(0) -> 9
        sown() -> 0
        sow(0, 90) -> 99
        sow(0, 1) -> throws.UnsupportedOperationException
        sow(15, 1) -> 10
        sown() -> 91
        totalGrains() -> 235
        """);
    promise("25 sow 99 grains on an empty field", """
        9x pass(16) -> 16
        grains(0) -> 0
        sow(0, 99) -> 99
        sow(0, 1) -> throws.UnsupportedOperationException
        """);
    promise("26 pass", """
        pass(0) -> throws.IllegalArgumentException
        pass(61) -> throws.IllegalArgumentException
        pass(-1) -> throws.IllegalArgumentException
        pass(-2147483648) -> throws.IllegalArgumentException
        day() -> 0
        undoCount() -> 0
        pass(1) -> 1
        grains(7) -> 8
        pass(1) -> 1
        grains(14) -> 8
        pass(1) -> 1
        grains(5) -> 8
        pass(13) -> 13
        grains(0) -> 8
        day() -> 16
        pass(60) -> 60
        pass(60) -> 60
        totalGrains() -> 8
        pass(8) -> 8
        pass(60) -> 0
        day() -> 204
        eaten() -> 144
        """);
    promise("26 pass beside a guard", """
        register(6) -> 0
        issueByRegistry(0, 0) -> 0
        isGuarded(7) -> true
        pass(1) -> 1
        certificateCount() -> 0
        undo() -> 2
        issueByRegistry(0, 1) -> 1
        pass(1) -> 0
        isGuarded(14) -> false
        grains(7) -> 9
        certificateCount() -> 1
        """);
    promise("26 pass removes from the middle", """
        register(0) -> 0
        issueByRegistry(0, 5) -> 0
        issueByRegistry(0, 1) -> 1
        issueByRegistry(0, 2) -> 2
        issueByRegistry(0, 1) -> 3
        issueByRegistry(0, 7) -> 4
        pass(1) -> 1
        certificateCount() -> 5
        pass(1) -> 1
        certificateCount() -> 3
        lastDayOf(0) -> 5
        lastDayOf(1) -> 2
        lastDayOf(2) -> 7
        """);
    promise("27 predictEaten", """
        predictEaten(-1) -> throws.IllegalArgumentException
        predictEaten(61) -> throws.IllegalArgumentException
        predictEaten(0) -> 0
        predictEaten(1) -> 1
        predictEaten(60) -> 60
        day() -> 0
        eaten() -> 0
        undoCount() -> 0
        register(6) -> 0
        issueByRegistry(0, 1) -> 0
        predictEaten(1) -> 0
        predictEaten(2) -> 1
        predictEaten(17) -> 16
        grains(7) -> 9
        certificateCount() -> 1
        pass(17) -> 16
        2x pass(60) -> 60
        predictEaten(60) -> 8
        predictEaten(7) -> 7
        pass(60) -> 8
        predictEaten(60) -> 0
        """);
    promise("28 and 29 day, nextLook", """
        day() -> 0
        nextLook() -> 7
        pass(1) -> 1
        day() -> 1
        nextLook() -> 14
        pass(1) -> 1
        nextLook() -> 5
        pass(13) -> 13
        day() -> 15
        nextLook() -> 0
        pass(1) -> 1
        nextLook() -> 7
        pass(60) -> 60
        day() -> 76
        nextLook() -> 11
        """);
    promise("30 grains", """
        grains(-1) -> throws.IllegalArgumentException
        grains(16) -> throws.IllegalArgumentException
        grains(0) -> 9
        sow(3, 7) -> 16
        grains(3) -> 16
        pass(1) -> 1
        grains(7) -> 8
        grains(6) -> 9
        """);
    promise("34, 35 and 36 totalGrains, eaten, sown", """
        totalGrains() -> 144
        sow(3, 7) -> 16
        sow(0, 90) -> 99
        sow(0, 90) -> throws.UnsupportedOperationException
        sown() -> 97
        totalGrains() -> 241
        pass(5) -> 5
        eaten() -> 5
        pass(2) -> 2
        eaten() -> 7
        totalGrains() -> 234
        sown() -> 97
        predictEaten(9) -> 9
        eaten() -> 7
        undo() -> 3
        eaten() -> 5
        undo() -> 2
        undo() -> 1
        sown() -> 7
        """);
  }

  private static void guarding() {
    promise("31 isGuarded", """
        isGuarded(-1) -> throws.IllegalArgumentException
        isGuarded(16) -> throws.IllegalArgumentException
        register(5) -> 0
        isGuarded(5) -> false
        issueByRegistry(0, 9) -> 0
        isGuarded(5) -> true
        isGuarded(1) -> true
        isGuarded(4) -> true
        isGuarded(6) -> true
        isGuarded(9) -> true
        isGuarded(0) -> false
        isGuarded(2) -> false
        isGuarded(7) -> false
        isGuarded(8) -> false
        isGuarded(10) -> false
        isGuarded(13) -> false
        setRevoked(0, true) -> 0
        isGuarded(5) -> false
        """);
    promise("31 the end of a row is not near the next row", """
        register(7) -> 0
        issueByRegistry(0, 9) -> 0
        isGuarded(7) -> true
        isGuarded(3) -> true
        isGuarded(6) -> true
        isGuarded(11) -> true
        isGuarded(8) -> false
        isGuarded(4) -> false
        guardedFields() -> 4
        guardedFieldsByScarecrows() -> 4
        """);
    int[] near = {3, 4, 4, 3, 4, 5, 5, 4, 4, 5, 5, 4, 3, 4, 4, 3};
    for (int field = 0; field < near.length; field++) {
      promise("32 and 33 one guard on field " + field, """
          register(FIELD) -> 0
          issueByRegistry(0, 9) -> 0
          guardedFields() -> NEAR
          guardedFieldsByScarecrows() -> NEAR
          """.replace("FIELD", "" + field).replace("NEAR", "" + near[field]));
    }
    promise("32 and 33 guards that share fields", """
        guardedFields() -> 0
        guardedFieldsByScarecrows() -> 0
        register(5) -> 0
        register(6) -> 1
        register(15) -> 2
        issueByRegistry(0, 9) -> 0
        issue(0, 1, 9) -> 1
        guardedFields() -> 8
        guardedFieldsByScarecrows() -> 8
        issue(1, 2, 9) -> 2
        guardedFields() -> 11
        guardedFieldsByScarecrows() -> 11
        move(1, 7) -> 6
        guardedFields() -> 5
        guardedFieldsByScarecrows() -> 5
        """);
    promise("32 and 33 guards above, below and beside each other", """
        register(9) -> 0
        register(5) -> 1
        issueByRegistry(0, 9) -> 0
        issueByRegistry(1, 9) -> 1
        guardedFields() -> 8
        guardedFieldsByScarecrows() -> 8
        register(10) -> 2
        issueByRegistry(2, 9) -> 2
        guardedFields() -> 10
        guardedFieldsByScarecrows() -> 10
        register(0) -> 3
        issueByRegistry(3, 9) -> 3
        guardedFields() -> 11
        guardedFieldsByScarecrows() -> 11
        """);
  }

  private static void shares() {
    promise("37 meanDaysLeft", """
        meanDaysLeft() -> throws.ArithmeticException
        register(5) -> 0
        meanDaysLeft() -> throws.ArithmeticException
        issueByRegistry(0, 0) -> 0
        meanDaysLeft() -> 0.0
        issueByRegistry(0, 99) -> 1
        meanDaysLeft() -> 49.5
        issueByRegistry(0, 1) -> 2
        meanDaysLeft() -> 33.333333333333336
        pass(1) -> 1
        meanDaysLeft() -> 49.0
        move(0, 6) -> 5
        meanDaysLeft() -> 49.0
        withdraw(0) -> 0
        withdraw(0) -> 0
        meanDaysLeft() -> throws.ArithmeticException
        """);
    promise("38 inForceShare", """
        inForceShare() -> throws.ArithmeticException
        register(5) -> 0
        register(6) -> 1
        inForceShare() -> throws.ArithmeticException
        issueByRegistry(0, 9) -> 0
        inForceShare() -> 1.0
        issue(0, 1, 9) -> 1
        issueByRegistry(1, 9) -> 2
        inForceShare() -> 1.0
        setRevoked(0, true) -> 1
        inForceShare() -> 0.6666667
        move(1, 7) -> 6
        inForceShare() -> 0.33333334
        move(0, 6) -> 5
        inForceShare() -> 0.0
        """);
  }

  private static void texts() {
    promise("39 feed", """
        feed('p') -> 1
        feed(65535) -> 2
        feed(0) -> 3
        57x feed('x') -> *
        feed('x') -> throws.IllegalStateException
        feed('x') -> throws.IllegalStateException
        execute() -> throws.IllegalArgumentException
        faultPosition() -> 1
        feed('x') -> 1
        """);
    promise("39 the buffer is full at 60 characters", """
        59x feed('9') -> *
        feed('9') -> 60
        feed('9') -> throws.IllegalStateException
        undoCount() -> 0
        """);
    promise("40 execute, every command", """
        run put 0;put 05;put 10;root 0 20;issue 0>1 9;sow 3 12;move 2>11 -> 7
        scarecrowCount() -> 3
        fieldOf(1) -> 5
        fieldOf(2) -> 11
        subjectOf(0) -> 0
        lastDayOf(0) -> 20
        isByRegistry(0) -> true
        issuerOf(1) -> 0
        subjectOf(1) -> 1
        lastDayOf(1) -> 9
        grains(3) -> 21
        undoCount() -> 1
        run revoke 0;wait 2;drop 1 -> 3
        isRevoked(0) -> true
        day() -> 2
        certificateCount() -> 1
        eaten() -> 2
        run restore 0 -> 1
        isRevoked(0) -> false
        undoCount() -> 3
        undo() -> 2
        undo() -> 1
        day() -> 0
        certificateCount() -> 2
        eaten() -> 0
        isRevoked(0) -> false
        undo() -> 0
        scarecrowCount() -> 0
        grains(3) -> 9
        """);
    promise("40 execute, ten commands", """
        run put 0;put 1;put 2;put 3;put 4;put 5;put 6;put 7;put 8;put 9 -> 10
        scarecrowCount() -> 10
        undoCount() -> 1
        execute() -> throws.IllegalArgumentException
        """);
    promise("40 execute, all or none", """
        run put 3;sow 3 7;wait 5 -> 3
        run put 4;move 0>9;sow 1 90;revoke 0;wait 9;put 4 -> throws.UnsupportedOperationException
        denial() -> 6
        denialDetail() -> 5
        denialCause() -> 2
        scarecrowCount() -> 1
        fieldOf(0) -> 3
        isRevoked(0) -> false
        day() -> 5
        eaten() -> 5
        sown() -> 7
        undoCount() -> 1
        execute() -> throws.IllegalArgumentException
        faultPosition() -> 0
        undo() -> 0
        scarecrowCount() -> 0
        """);
    promise("40 execute, the buffer is empty after each end", """
        run put 0 -> 1
        feed('a') -> 1
        run x -> throws.IllegalArgumentException
        feed('a') -> 1
        execute() -> throws.IllegalArgumentException
        run put 0 -> throws.UnsupportedOperationException
        feed('a') -> 1
        """);
    String[] causes = {
        "put 16=7", "put 0=2", "move 1>3=7", "move 0>16=7", "move 0>0=2", "revoke 5=7", "restore 0=5",
        "root 9 5=7", "issue 1>0 5=7", "issue 0>9 5=7", "issue 0>0 5=4", "drop 0=7", "sow 16 5=7",
        "sow 0 0=7", "sow 0 91=1", "wait 0=7", "wait 61=7"};
    for (String cause : causes) {
      String[] parts = cause.split("=");
      promise("40 and 47 the cause of a failed " + parts[0], """
          run put 0 -> 1
          run wait 1;COMMAND -> throws.UnsupportedOperationException
          denial() -> 6
          denialDetail() -> 1
          denialCause() -> CAUSE
          day() -> 0
          undoCount() -> 1
          """.replace("COMMAND", parts[0]).replace("CAUSE", parts[1]));
    }
    promise("40 a revoked issuer, in a text", """
        run put 0;put 1;root 0 9;revoke 0 -> 4
        run restore 0;issue 0>1 9 -> 2
        run revoke 0;issue 0>1 9 -> throws.UnsupportedOperationException
        denialDetail() -> 1
        denialCause() -> 3
        isRevoked(0) -> false
        """);
    String[] faults = {
        "=0", "p=1", "x=0", "P=0", " put 1=0", "put=3", "put =4", "put  1=4", "put x=4", "put 1x=5",
        "put 123=6", "put 12 =6", "put 1;=6", "put 12;=7", "put 1;;=6", "put 1; put 2=6", "put 1,put 2=5",
        "pu 1=2", "pat 1=1", "put-1=3", "put -1=4", "move =5", "move 1=6", "move 12>3=6", "move 1>=7",
        "move 1>x=7", "move 1>123=9", "move 1>2;move=13", "mo=2", "move1=4", "r=1", "re=2", "rex=2",
        "rev=3", "res=3", "revo=4", "revoke=6", "revoke x=7", "revoke 12=8", "restore 12=9", "restork=6",
        "ro=2", "root=4", "root 1=6", "root 12 3=6", "root 1  2=7", "root 1 234=9", "rx=1", "rooT 1 2=3",
        "issue=5", "issue 1=7", "issue 1>2=9", "issue 1>23=9", "issue 1>2 =10", "issue 1>2 345=12",
        "issue 1 2 3=7", "i=1", "d=1", "drop=4", "drop 123=7", "drop1=4", "s=1", "sox=2", "sow 1=5",
        "sow 1 =6", "sow 12=6", "sow 123 4=6", "sow 12 345=9", "sow 1  4=6", "w=1", "wait=4", "wait 1 =6",
        "wait 60;wiat 1=9", "sow 1 2;put 3;zap=14", "put 1\u00e9=5", "put \u0661=4", "put 1;put 2;put 3;q=18"};
    for (String fault : faults) {
      int split = fault.lastIndexOf('=');
      promise("40 and 41 the fault of '" + fault + "'",
          "run " + fault.substring(0, split) + " -> throws.IllegalArgumentException\nfaultPosition() -> "
              + fault.substring(split + 1) + "\nscarecrowCount() -> 0\nundoCount() -> 0\n"
              + "denial() -> throws.NoSuchElementException\n");
    }
    promise("41 faultPosition", """
        faultPosition() -> throws.NoSuchElementException
        run put 3 -> 1
        faultPosition() -> throws.NoSuchElementException
        run put 3 -> throws.UnsupportedOperationException
        faultPosition() -> throws.NoSuchElementException
        run put x -> throws.IllegalArgumentException
        faultPosition() -> 4
        run put 4 -> 1
        faultPosition() -> 4
        saveSnapshot() -> 2
        run put 33x -> throws.IllegalArgumentException
        faultPosition() -> 6
        undo() -> 1
        faultPosition() -> 6
        restoreSnapshot() -> 2
        faultPosition() -> 6
        execute() -> throws.IllegalArgumentException
        faultPosition() -> 0
        """);
    String eightWaits = "wait 1;".repeat(8);
    promise("41 the fault of a full buffer", """
        run WAITSwait -> throws.IllegalArgumentException
        faultPosition() -> 60
        run WAITSput  -> throws.IllegalArgumentException
        faultPosition() -> 60
        run WAITSpits -> throws.IllegalArgumentException
        faultPosition() -> 57
        day() -> 0
        """.replace("WAITS", eightWaits));
  }

  private static void lines() {
    promise("42 writeCertificate", """
        writeCertificate(0) -> throws.IndexOutOfBoundsException
        register(12) -> 0
        register(3) -> 1
        issueByRegistry(0, 7) -> 0
        issue(0, 1, 40) -> 1
        writeCertificate(0) -> 9
        line -> R>0@12<7!
        writeCertificate(1) -> 9
        line -> 0>1@3<40!
        writeCertificate(2) -> throws.IndexOutOfBoundsException
        writeCertificate(-1) -> throws.IndexOutOfBoundsException
        line -> 0>1@3<40!
        setRevoked(1, true) -> 1
        writeCertificate(1) -> 9
        line -> 0>1@3<40!
        setRevoked(0, true) -> 0
        writeCertificate(1) -> 8
        line -> 0>1@3<40
        move(0, 8) -> 12
        writeCertificate(0) -> 8
        line -> R>0@12<7
        """);
    promise("42 a day of five digits", """
        register(0) -> 0
        180x pass(60) -> *
        issueByRegistry(0, 99) -> 0
        writeCertificate(0) -> 12
        line -> R>0@0<10899!
        lastDayOf(0) -> 10899
        """);
    promise("43 writeFields", """
        writeFields() -> 19
        line -> ..../..../..../....
        register(9) -> 0
        register(6) -> 1
        register(15) -> 2
        issueByRegistry(0, 9) -> 0
        issueByRegistry(2, 9) -> 1
        setRevoked(2, true) -> 1
        writeFields() -> 19
        line -> ..../.+S./+C+./.+.R
        register(8) -> 3
        register(0) -> 4
        setRevoked(4, true) -> 1
        writeFields() -> 19
        line -> R.../.+S./SC+./.+.R
        setRevoked(2, false) -> 2
        writeFields() -> 19
        line -> R.../.+S./SC++/.++C
        """);
    promise("44 lineCharacter", """
        lineCharacter(0) -> throws.IndexOutOfBoundsException
        lineCharacter(-1) -> throws.IndexOutOfBoundsException
        register(5) -> 0
        issueByRegistry(0, 3) -> 0
        writeFields() -> 19
        lineCharacter(0) -> '.'
        lineCharacter(4) -> '/'
        lineCharacter(6) -> 'C'
        lineCharacter(18) -> '.'
        lineCharacter(19) -> throws.IndexOutOfBoundsException
        lineCharacter(-1) -> throws.IndexOutOfBoundsException
        writeCertificate(0) -> 8
        lineCharacter(7) -> '!'
        lineCharacter(8) -> throws.IndexOutOfBoundsException
        lineCharacter(18) -> throws.IndexOutOfBoundsException
        undo() -> 1
        line -> R>0@5<3!
        saveSnapshot() -> 1
        restoreSnapshot() -> 1
        line -> R>0@5<3!
        """);
  }

  private static void denials() {
    promise("45, 46 and 47 the latest denial", """
        denial() -> throws.NoSuchElementException
        denialDetail() -> throws.NoSuchElementException
        denialCause() -> throws.NoSuchElementException
        register(0) -> 0
        register(99) -> throws.IllegalArgumentException
        denial() -> throws.NoSuchElementException
        register(0) -> throws.UnsupportedOperationException
        denial() -> 2
        denialDetail() -> 0
        denialCause() -> throws.NoSuchElementException
        run put 1;put 2;put 0 -> throws.UnsupportedOperationException
        denial() -> 6
        denialDetail() -> 2
        denialCause() -> 2
        run drop 0 -> throws.UnsupportedOperationException
        denial() -> 6
        denialDetail() -> 0
        denialCause() -> 7
        run put 1 -> 1
        register(99) -> throws.IllegalArgumentException
        execute() -> throws.IllegalArgumentException
        undo() -> 1
        saveSnapshot() -> 1
        restoreSnapshot() -> 1
        denial() -> 6
        denialCause() -> 7
        setRevoked(0, false) -> throws.UnsupportedOperationException
        denial() -> 5
        denialDetail() -> 0
        denialCause() -> throws.NoSuchElementException
        """);
    promise("47 a limit as the cause", """
        run put 0;put 1;put 2;put 3;put 4;put 5;put 6;put 7;put 8;put 9 -> 10
        run wait 1;put 12 -> throws.UnsupportedOperationException
        denialCause() -> 1
        denialDetail() -> 1
        run put 16;put 12 -> throws.UnsupportedOperationException
        denialCause() -> 7
        denialDetail() -> 0
        """);
  }

  private static void undoAndSnapshots() {
    promise("48 and 49 undo, undoCount", """
        undo() -> throws.IllegalStateException
        undoCount() -> 0
        register(0) -> 0
        issueByRegistry(0, 9) -> 0
        register(1) -> 1
        issue(0, 1, 8) -> 1
        move(1, 2) -> 1
        setRevoked(0, true) -> 0
        sow(4, 4) -> 13
        undoCount() -> 7
        pass(10) -> 10
        undoCount() -> 8
        certificateCount() -> 0
        undo() -> 7
        day() -> 0
        eaten() -> 0
        certificateCount() -> 2
        lastDayOf(1) -> 8
        undo() -> 6
        grains(4) -> 9
        sown() -> 0
        isRevoked(0) -> true
        undo() -> 5
        isRevoked(0) -> false
        fieldOf(1) -> 2
        undo() -> 4
        fieldOf(1) -> 1
        certificateCount() -> 2
        undo() -> 3
        certificateCount() -> 1
        scarecrowCount() -> 2
        undo() -> 2
        scarecrowCount() -> 1
        undo() -> 1
        undo() -> 0
        scarecrowCount() -> 0
        undo() -> throws.IllegalStateException
        undoCount() -> 0
        register(4) -> 0
        undoCount() -> 1
        """);
    promise("48 only the latest eight changes", """
        7x pass(1) -> 1
        undoCount() -> 7
        pass(1) -> 1
        undoCount() -> 8
        pass(1) -> 1
        undoCount() -> 8
        pass(2) -> 2
        pass(3) -> 3
        undoCount() -> 8
        day() -> 14
        undo() -> 7
        day() -> 11
        undo() -> 6
        day() -> 9
        undo() -> 5
        day() -> 8
        pass(20) -> 20
        undoCount() -> 6
        undo() -> 5
        day() -> 8
        undo() -> 4
        undo() -> 3
        undo() -> 2
        undo() -> 1
        undo() -> 0
        day() -> 3
        undo() -> throws.IllegalStateException
        day() -> 3
        """);
    promise("48 withdraw is undone, too", """
        register(0) -> 0
        register(7) -> 1
        issueByRegistry(0, 1) -> 0
        issueByRegistry(1, 2) -> 1
        issue(1, 0, 3) -> 2
        withdraw(1) -> 1
        lastDayOf(1) -> 3
        undo() -> 5
        certificateCount() -> 3
        lastDayOf(1) -> 2
        lastDayOf(2) -> 3
        subjectOf(1) -> 1
        subjectOf(2) -> 0
        addressOf(1) -> 7
        addressOf(2) -> 0
        isByRegistry(1) -> true
        issuerOf(2) -> 1
        """);
    promise("49 calls that throw are no changes", """
        register(16) -> throws.IllegalArgumentException
        move(0, 0) -> throws.IndexOutOfBoundsException
        setRevoked(0, true) -> throws.IndexOutOfBoundsException
        issueByRegistry(0, 0) -> throws.IndexOutOfBoundsException
        issue(0, 1, 0) -> throws.IndexOutOfBoundsException
        withdraw(0) -> throws.IndexOutOfBoundsException
        sow(0, 91) -> throws.UnsupportedOperationException
        pass(0) -> throws.IllegalArgumentException
        execute() -> throws.IllegalArgumentException
        predictEaten(3) -> 3
        feed('a') -> 1
        writeFields() -> 19
        saveSnapshot() -> 0
        undoCount() -> 0
        """);
    promise("48 what undo leaves alone", """
        register(0) -> 0
        type pu
        register(0) -> throws.UnsupportedOperationException
        writeFields() -> 19
        undo() -> 0
        feed('t') -> 3
        denial() -> 2
        denialDetail() -> 0
        line -> S.../..../..../....
        """);
    promise("50 and 51 saveSnapshot, restoreSnapshot", """
        restoreSnapshot() -> throws.IllegalStateException
        register(0) -> 0
        restoreSnapshot() -> throws.IllegalStateException
        undoCount() -> 1
        register(1) -> 1
        issueByRegistry(0, 9) -> 0
        setRevoked(1, true) -> 1
        sow(5, 5) -> 14
        pass(3) -> 3
        saveSnapshot() -> 2
        undoCount() -> 6
        register(2) -> 2
        move(0, 9) -> 0
        setRevoked(1, false) -> 0
        issueByRegistry(2, 9) -> 1
        withdraw(0) -> 0
        sow(5, 5) -> 18
        pass(20) -> 17
        type mov
        restoreSnapshot() -> 2
        undoCount() -> 0
        undo() -> throws.IllegalStateException
        feed('e') -> 4
        scarecrowCount() -> 2
        fieldOf(0) -> 0
        isRevoked(1) -> true
        certificateCount() -> 1
        subjectOf(0) -> 0
        isInForce(0) -> true
        grains(5) -> 13
        day() -> 3
        eaten() -> 3
        sown() -> 5
        register(2) -> 2
        undoCount() -> 1
        restoreSnapshot() -> 2
        undoCount() -> 0
        scarecrowCount() -> 2
        """);
    promise("50 a later snapshot replaces an earlier one", """
        saveSnapshot() -> 0
        register(0) -> 0
        saveSnapshot() -> 1
        register(1) -> 1
        undo() -> 1
        undo() -> 0
        scarecrowCount() -> 0
        restoreSnapshot() -> 1
        scarecrowCount() -> 1
        fieldOf(0) -> 0
        """);
  }

  private static void objectsAreApart() {
    ScarecrowRegistry one = new ScarecrowRegistry();
    one.register(3);
    one.pass(5);
    one.feed('x');
    one.saveSnapshot();
    one.writeFields();
    promise("1 objects are apart", """
        scarecrowCount() -> 0
        day() -> 0
        undoCount() -> 0
        feed('x') -> 1
        lineCharacter(0) -> throws.IndexOutOfBoundsException
        restoreSnapshot() -> throws.IllegalStateException
        """);
    SCRIPTS.holds("1 objects are apart: the first one has not changed",
        one.scarecrowCount() == 1 && one.day() == 5 && one.undoCount() == 2 && one.feed('y') == 2);
  }

  // ---- the scripts

  private static String counted(String line, int times) {
    return Scripts.counted(line, times);
  }

  private static void promise(String name, String script) {
    SCRIPTS.holds(name, script);
  }
}
