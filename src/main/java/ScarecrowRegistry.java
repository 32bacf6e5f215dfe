import java.util.NoSuchElementException;

/**
 * A registry of scarecrows with addresses and certificates: certificates are issued in chains, dates,
 * moves and revocations decide which of them are in force, and only certified scarecrows guard fields
 * against a crow.
 *
 * <p>Sets of scarecrows, certificates or fields are held as the bits of an int: bit i stands for index i.
 */
public final class ScarecrowRegistry {
  private static final int ROWS = 4;
  private static final int COLUMNS = 4;
  private static final int FIELDS = 16;
  private static final int SCARECROWS = 10;
  private static final int CERTIFICATES = 20;
  private static final int FIRST_GRAINS = 9;
  private static final int MOST_GRAINS = 99;
  private static final int MOST_DAYS_HELD = 99;
  private static final int MOST_DAYS_PASSED = 60;
  private static final int TEXT_LIMIT = 60;
  private static final int MOST_PARAMETERS = 3;
  private static final int UNDO_LIMIT = 8;

  private static final int NONE = -1;
  /** Stands in a certificate for the index of an issuer. */
  private static final int REGISTRY = -1;

  // What a command answers if it fails, in place of its result, which is never negative: so execute
  // learns how one of its commands failed without catching anything.
  private static final int NO_SUCH_INDEX = -1;
  private static final int BAD_ARGUMENT = -2;
  private static final int DENIED = -3;

  private static final int NO_DENIAL = 0;
  private static final int LIMIT_REACHED = 1;
  private static final int FIELD_TAKEN = 2;
  private static final int ISSUER_NOT_CERTIFIED = 3;
  private static final int ISSUER_IS_SUBJECT = 4;
  private static final int VALUE_IS_PRESENT = 5;
  private static final int COMMAND_FAILED = 6;
  private static final int OTHER_EXCEPTION = 7;

  private static final Kind[] KINDS = Kind.values();

  private final State state = new State();
  private final State before = new State();
  private final State forecast = new State();
  private final State snapshot = new State();
  private boolean hasSnapshot;
  private final History history = new History();
  private final CommandText text = new CommandText();
  private final StringBuilder line = new StringBuilder();
  private int keptFault = NONE;
  private int latestDenial = NO_DENIAL;
  private int latestDetail;
  private int latestCause = NO_DENIAL;

  /** Creates a registry without scarecrows and certificates, on day 0. */
  public ScarecrowRegistry() {
  }

  // ---- scarecrows

  /** Registers a scarecrow on a field and returns its index. */
  public int register(int field) throws IllegalArgumentException, UnsupportedOperationException {
    beginChange();
    return endChange(putScarecrow(field));
  }

  /** Moves a scarecrow to another field and returns the field on which it stood. */
  public int move(int scarecrow, int field)
      throws IndexOutOfBoundsException, IllegalArgumentException, UnsupportedOperationException {
    beginChange();
    return endChange(moveScarecrow(scarecrow, field));
  }

  /** Revokes or restores a scarecrow and returns the number of certified scarecrows afterwards. */
  public int setRevoked(int scarecrow, boolean isRevoked)
      throws IndexOutOfBoundsException, UnsupportedOperationException {
    beginChange();
    return endChange(revokeOrRestore(scarecrow, isRevoked));
  }

  /** Returns the number of scarecrows. */
  public int scarecrowCount() {
    return state.scarecrows;
  }

  /** Returns the field on which a scarecrow stands. */
  public int fieldOf(int scarecrow) throws IndexOutOfBoundsException {
    requireScarecrow(scarecrow);
    return state.standings.get(scarecrow);
  }

  /** Returns the scarecrow that stands on a field. */
  public int scarecrowOn(int field) throws IllegalArgumentException, NoSuchElementException {
    requireField(field);
    int scarecrow = state.scarecrowAt(field);
    if (scarecrow == NONE) {
      throw new NoSuchElementException("no scarecrow stands there");
    }
    return scarecrow;
  }

  /** Returns whether a scarecrow is revoked. */
  public boolean isRevoked(int scarecrow) throws IndexOutOfBoundsException {
    requireScarecrow(scarecrow);
    return has(state.revoked, scarecrow);
  }

  /** Returns whether a scarecrow is certified, found from the registry on. */
  public boolean isCertified(int scarecrow) throws IndexOutOfBoundsException {
    requireScarecrow(scarecrow);
    return has(state.certifiedNow(), scarecrow);
  }

  /** Returns whether a scarecrow is certified, found from the scarecrow back. */
  public boolean isCertifiedByChains(int scarecrow) throws IndexOutOfBoundsException {
    requireScarecrow(scarecrow);
    return state.leadsBackToRegistry(scarecrow);
  }

  /** Returns the number of certificates in the shortest chain from the registry to a scarecrow. */
  public int chainLength(int scarecrow) throws IndexOutOfBoundsException, NoSuchElementException {
    requireScarecrow(scarecrow);
    for (int length = 1; length <= SCARECROWS; length++) {
      if (has(state.certifiedWithin(length, state.day), scarecrow)) {
        return length;
      }
    }
    throw new NoSuchElementException("the scarecrow is not certified");
  }

  /** Returns the number of days after which a scarecrow is not certified any more, if only days pass. */
  public int daysUntilUncertified(int scarecrow) throws IndexOutOfBoundsException {
    requireScarecrow(scarecrow);
    for (int days = 0; days <= MOST_DAYS_HELD; days++) {
      if (!has(state.certifiedWithin(SCARECROWS, state.day + days), scarecrow)) {
        return days;
      }
    }
    return MOST_DAYS_HELD + 1;
  }

  /** Returns the scarecrow at a rank by the number of certificates in force of which it is the subject. */
  public int scarecrowByCertificates(int rank) throws NoSuchElementException {
    int inForce = state.inForceNow();
    for (int scarecrow = 0; scarecrow < state.scarecrows; scarecrow++) {
      if (state.rankOf(scarecrow, inForce) == rank) {
        return scarecrow;
      }
    }
    throw new NoSuchElementException("there is no such rank");
  }

  // ---- certificates

  /** Lets the registry issue a certificate and returns its index. */
  public int issueByRegistry(int subject, int days)
      throws IndexOutOfBoundsException, IllegalArgumentException, UnsupportedOperationException {
    beginChange();
    return endChange(certifyByRegistry(subject, days));
  }

  /** Lets a scarecrow issue a certificate and returns its index. */
  public int issue(int issuer, int subject, int days)
      throws IndexOutOfBoundsException, IllegalArgumentException, UnsupportedOperationException {
    beginChange();
    return endChange(certifyByScarecrow(issuer, subject, days));
  }

  /** Removes a certificate and returns the index of its subject. */
  public int withdraw(int certificate) throws IndexOutOfBoundsException {
    beginChange();
    return endChange(dropCertificate(certificate));
  }

  /** Returns the number of certificates. */
  public int certificateCount() {
    return state.certificates;
  }

  /** Returns whether the registry issued a certificate. */
  public boolean isByRegistry(int certificate) throws IndexOutOfBoundsException {
    requireCertificate(certificate);
    return state.issuers.get(certificate) == REGISTRY;
  }

  /** Returns the scarecrow that issued a certificate. */
  public int issuerOf(int certificate) throws IndexOutOfBoundsException, NoSuchElementException {
    requireCertificate(certificate);
    int issuer = state.issuers.get(certificate);
    if (issuer == REGISTRY) {
      throw new NoSuchElementException("the registry issued the certificate");
    }
    return issuer;
  }

  /** Returns the subject of a certificate. */
  public int subjectOf(int certificate) throws IndexOutOfBoundsException {
    requireCertificate(certificate);
    return state.subjects.get(certificate);
  }

  /** Returns the address in a certificate. */
  public int addressOf(int certificate) throws IndexOutOfBoundsException {
    requireCertificate(certificate);
    return state.addresses.get(certificate);
  }

  /** Returns the last day of a certificate. */
  public int lastDayOf(int certificate) throws IndexOutOfBoundsException {
    requireCertificate(certificate);
    return state.lastDays.get(certificate);
  }

  /** Returns whether a certificate is in force. */
  public boolean isInForce(int certificate) throws IndexOutOfBoundsException {
    requireCertificate(certificate);
    return has(state.inForceNow(), certificate);
  }

  /** Returns the number of certificates in force. */
  public int inForceCount() {
    return Integer.bitCount(state.inForceNow());
  }

  // ---- fields, days

  /** Puts grains on a field and returns the grains of the field afterwards. */
  public int sow(int field, int grains) throws IllegalArgumentException, UnsupportedOperationException {
    beginChange();
    return endChange(putGrains(field, grains));
  }

  /** Lets days pass and returns the number of grains that are eaten in them. */
  public int pass(int days) throws IllegalArgumentException {
    beginChange();
    return endChange(passDays(days));
  }

  /** Returns the number of grains that would be eaten in a number of days, if only days passed. */
  public int predictEaten(int days) throws IllegalArgumentException {
    if (days < 0 || days > MOST_DAYS_PASSED) {
      throw new IllegalArgumentException("the number of days is out of range");
    }
    forecast.copyFrom(state);
    return forecast.letDaysPass(days);
  }

  /** Returns the day. */
  public int day() {
    return state.day;
  }

  /** Returns the field at which the crow will look when the next day passes. */
  public int nextLook() {
    return lookOn(state.day + 1);
  }

  /** Returns the grains of a field. */
  public int grains(int field) throws IllegalArgumentException {
    requireField(field);
    return state.grains.get(field);
  }

  /** Returns whether a field is guarded. */
  public boolean isGuarded(int field) throws IllegalArgumentException {
    requireField(field);
    return state.isNearOneOf(state.certifiedNow(), field);
  }

  /** Returns the number of guarded fields, counted field by field. */
  public int guardedFields() {
    int certified = state.certifiedNow();
    int guarded = 0;
    for (int field = 0; field < FIELDS; field++) {
      if (state.isNearOneOf(certified, field)) {
        guarded++;
      }
    }
    return guarded;
  }

  /** Returns the number of guarded fields, counted from the sets that certified scarecrows guard. */
  public int guardedFieldsByScarecrows() {
    int certified = state.certifiedNow();
    int guarded = 0;
    for (int scarecrow = 0; scarecrow < state.scarecrows; scarecrow++) {
      if (has(certified, scarecrow)) {
        guarded |= fieldsNear(state.standings.get(scarecrow));
      }
    }
    return Integer.bitCount(guarded);
  }

  /** Returns the grains of all fields. */
  public int totalGrains() {
    int total = 0;
    for (int field = 0; field < FIELDS; field++) {
      total += state.grains.get(field);
    }
    return total;
  }

  /** Returns the grains that have been eaten so far. */
  public int eaten() {
    return state.eaten;
  }

  /** Returns the grains that have been sown so far. */
  public int sown() {
    return state.sown;
  }

  /** Returns the mean number of days for which the certificates are held still. */
  public double meanDaysLeft() throws ArithmeticException {
    if (state.certificates <= 0) {
      throw new ArithmeticException("there are no certificates");
    }
    int daysLeft = 0;
    for (int certificate = 0; certificate < state.certificates; certificate++) {
      daysLeft += state.lastDays.get(certificate) - state.day;
    }
    return (double) daysLeft / (double) state.certificates;
  }

  /** Returns the share of certificates that are in force. */
  public float inForceShare() throws ArithmeticException {
    if (state.certificates <= 0) {
      throw new ArithmeticException("there are no certificates");
    }
    return (float) Integer.bitCount(state.inForceNow()) / (float) state.certificates;
  }

  // ---- texts and output lines

  /** Appends a character to the text buffer and returns the length of the buffer afterwards. */
  public int feed(char character) throws IllegalStateException {
    if (text.length >= TEXT_LIMIT) {
      throw new IllegalStateException("the text buffer is full");
    }
    return text.append(character);
  }

  /** Executes all commands of the text buffer, or none, and returns their number. */
  public int execute() throws IllegalArgumentException, UnsupportedOperationException {
    int commands = text.countCommands();
    if (commands == NONE) {
      keptFault = text.position;
      text.clear();
      throw new IllegalArgumentException("the text does not match the grammar");
    }
    beginChange();
    text.rewind();
    for (int index = 0; index < commands; index++) {
      int outcome = text.readCommand() ? runCommand() : BAD_ARGUMENT;
      if (outcome < 0) {
        text.clear();
        state.copyFrom(before);
        denyText(index, outcome);
        throw new UnsupportedOperationException("a command of the text failed");
      }
    }
    text.clear();
    history.remember(before);
    return commands;
  }

  /** Returns the fault position that was kept last. */
  public int faultPosition() throws NoSuchElementException {
    if (keptFault == NONE) {
      throw new NoSuchElementException("no fault position was kept yet");
    }
    return keptFault;
  }

  /** Writes a certificate as the output line and returns the length of the line. */
  public int writeCertificate(int certificate) throws IndexOutOfBoundsException {
    requireCertificate(certificate);
    line.setLength(0);
    int issuer = state.issuers.get(certificate);
    if (issuer == REGISTRY) {
      line.append('R');
    } else {
      line.append(issuer);
    }
    line.append('>');
    line.append(state.subjects.get(certificate));
    line.append('@');
    line.append(state.addresses.get(certificate));
    line.append('<');
    line.append(state.lastDays.get(certificate));
    if (has(state.inForceNow(), certificate)) {
      line.append('!');
    }
    return line.length();
  }

  /** Writes the fields as the output line and returns the length of the line. */
  public int writeFields() {
    int certified = state.certifiedNow();
    line.setLength(0);
    for (int field = 0; field < FIELDS; field++) {
      if (field > 0 && field % COLUMNS == 0) {
        line.append('/');
      }
      line.append(state.signOf(field, certified));
    }
    return line.length();
  }

  /** Returns a character of the output line. */
  public char lineCharacter(int index) throws IndexOutOfBoundsException {
    if (index < 0 || index >= line.length()) {
      throw new IndexOutOfBoundsException("the line has no such character");
    }
    return line.charAt(index);
  }

  // ---- the latest denial

  /** Returns the number of the latest denial. */
  public int denial() throws NoSuchElementException {
    requireDenial();
    return latestDenial;
  }

  /** Returns the detail of the latest denial. */
  public int denialDetail() throws NoSuchElementException {
    requireDenial();
    return latestDetail;
  }

  /** Returns the number of the cause of the latest denial. */
  public int denialCause() throws NoSuchElementException {
    if (latestCause == NO_DENIAL) {
      throw new NoSuchElementException("there is no denial with a cause");
    }
    return latestCause;
  }

  // ---- undo and snapshots

  /** Undoes the latest change and returns the number of changes that can be undone afterwards. */
  public int undo() throws IllegalStateException {
    if (history.count <= 0) {
      throw new IllegalStateException("there is no change to undo");
    }
    return history.takeLatestInto(state);
  }

  /** Returns the number of changes that can be undone. */
  public int undoCount() {
    return history.count;
  }

  /** Saves a snapshot in place of an earlier one and returns the number of scarecrows. */
  public int saveSnapshot() {
    snapshot.copyFrom(state);
    hasSnapshot = true;
    return state.scarecrows;
  }

  /** Restores the snapshot, forgets all changes and returns the number of scarecrows afterwards. */
  public int restoreSnapshot() throws IllegalStateException {
    if (!hasSnapshot) {
      throw new IllegalStateException("there is no snapshot");
    }
    state.copyFrom(snapshot);
    history.forgetAll();
    return state.scarecrows;
  }

  // ---- what the calls require

  private void requireScarecrow(int scarecrow) {
    if (!state.hasScarecrow(scarecrow)) {
      throw new IndexOutOfBoundsException("there is no such scarecrow");
    }
  }

  private void requireCertificate(int certificate) {
    if (!state.hasCertificate(certificate)) {
      throw new IndexOutOfBoundsException("there is no such certificate");
    }
  }

  private static void requireField(int field) {
    if (!isField(field)) {
      throw new IllegalArgumentException("there is no such field");
    }
  }

  private void requireDenial() {
    if (latestDenial == NO_DENIAL) {
      throw new NoSuchElementException("nothing was denied yet");
    }
  }

  // ---- changes

  private void beginChange() {
    before.copyFrom(state);
  }

  /** Throws what a failed command asks for; otherwise the change can be undone from now on. */
  private int endChange(int outcome) {
    if (outcome == NO_SUCH_INDEX) {
      throw new IndexOutOfBoundsException("there is no such scarecrow or certificate");
    }
    if (outcome == BAD_ARGUMENT) {
      throw new IllegalArgumentException("there is no such field, or a number is out of range");
    }
    if (outcome == DENIED) {
      throw new UnsupportedOperationException("the call is denied");
    }
    history.remember(before);
    return outcome;
  }

  private int deny(int number, int detail) {
    latestDenial = number;
    latestDetail = detail;
    latestCause = NO_DENIAL;
    return DENIED;
  }

  private void denyText(int index, int outcome) {
    int cause = outcome == DENIED ? latestDenial : OTHER_EXCEPTION;
    deny(COMMAND_FAILED, index);
    latestCause = cause;
  }

  /** Runs the command that was read last; its outcome is its result or a negative reason. */
  private int runCommand() {
    int first = text.parameters.get(0);
    int second = text.parameters.get(1);
    int third = text.parameters.get(2);
    switch (text.kind) {
      case PUT:
        return putScarecrow(first);
      case MOVE:
        return moveScarecrow(first, second);
      case REVOKE:
        return revokeOrRestore(first, true);
      case RESTORE:
        return revokeOrRestore(first, false);
      case ROOT:
        return certifyByRegistry(first, second);
      case ISSUE:
        return certifyByScarecrow(first, second, third);
      case DROP:
        return dropCertificate(first);
      case SOW:
        return putGrains(first, second);
      case WAIT:
        return passDays(first);
      default:
        return BAD_ARGUMENT;
    }
  }

  private int putScarecrow(int field) {
    if (!isField(field)) {
      return BAD_ARGUMENT;
    }
    if (state.scarecrows >= SCARECROWS) {
      return deny(LIMIT_REACHED, SCARECROWS);
    }
    int standing = state.scarecrowAt(field);
    if (standing != NONE) {
      return deny(FIELD_TAKEN, standing);
    }
    return state.addScarecrow(field);
  }

  private int moveScarecrow(int scarecrow, int field) {
    if (!state.hasScarecrow(scarecrow)) {
      return NO_SUCH_INDEX;
    }
    if (!isField(field)) {
      return BAD_ARGUMENT;
    }
    int standing = state.scarecrowAt(field);
    if (standing != NONE) {
      return deny(FIELD_TAKEN, standing);
    }
    int left = state.standings.get(scarecrow);
    state.standings.set(scarecrow, field);
    return left;
  }

  private int revokeOrRestore(int scarecrow, boolean revokes) {
    if (!state.hasScarecrow(scarecrow)) {
      return NO_SUCH_INDEX;
    }
    if (has(state.revoked, scarecrow) == revokes) {
      return deny(VALUE_IS_PRESENT, revokes ? 1 : 0);
    }
    state.revoked ^= 1 << scarecrow;
    return Integer.bitCount(state.certifiedNow());
  }

  private int certifyByRegistry(int subject, int days) {
    if (!state.hasScarecrow(subject)) {
      return NO_SUCH_INDEX;
    }
    if (!canBeHeldFor(days)) {
      return BAD_ARGUMENT;
    }
    if (state.certificates >= CERTIFICATES) {
      return deny(LIMIT_REACHED, CERTIFICATES);
    }
    return state.addCertificate(REGISTRY, subject, days);
  }

  private int certifyByScarecrow(int issuer, int subject, int days) {
    if (!state.hasScarecrow(issuer) || !state.hasScarecrow(subject)) {
      return NO_SUCH_INDEX;
    }
    if (!canBeHeldFor(days)) {
      return BAD_ARGUMENT;
    }
    if (issuer == subject) {
      return deny(ISSUER_IS_SUBJECT, issuer);
    }
    if (!has(state.certifiedNow(), issuer)) {
      return deny(ISSUER_NOT_CERTIFIED, issuer);
    }
    if (state.certificates >= CERTIFICATES) {
      return deny(LIMIT_REACHED, CERTIFICATES);
    }
    return state.addCertificate(issuer, subject, days);
  }

  private int dropCertificate(int certificate) {
    if (!state.hasCertificate(certificate)) {
      return NO_SUCH_INDEX;
    }
    int subject = state.subjects.get(certificate);
    state.removeCertificate(certificate);
    return subject;
  }

  private int putGrains(int field, int grains) {
    if (!isField(field) || grains < 1 || grains > MOST_GRAINS) {
      return BAD_ARGUMENT;
    }
    int together = state.grains.get(field) + grains;
    if (together > MOST_GRAINS) {
      return deny(LIMIT_REACHED, MOST_GRAINS);
    }
    state.grains.set(field, together);
    state.sown += grains;
    return together;
  }

  private int passDays(int days) {
    if (days < 1 || days > MOST_DAYS_PASSED) {
      return BAD_ARGUMENT;
    }
    return state.letDaysPass(days);
  }

  // ---- plain facts

  private static boolean isField(int field) {
    return field >= 0 && field < FIELDS;
  }

  private static boolean canBeHeldFor(int days) {
    return days >= 0 && days <= MOST_DAYS_HELD;
  }

  private static boolean has(int set, int index) {
    return (set >> index & 1) == 1;
  }

  private static int lookOn(int day) {
    return Math.floorMod(7 * day, FIELDS);
  }

  private static int distance(int field, int other) {
    return Math.abs(field / COLUMNS - other / COLUMNS) + Math.abs(field % COLUMNS - other % COLUMNS);
  }

  /** The set of the field itself and its neighbours, built from the neighbours and not by distances. */
  private static int fieldsNear(int field) {
    int row = field / COLUMNS;
    int column = field % COLUMNS;
    int near = 1 << field;
    if (row > 0) {
      near |= 1 << (field - COLUMNS);
    }
    if (row < ROWS - 1) {
      near |= 1 << (field + COLUMNS);
    }
    if (column > 0) {
      near |= 1 << (field - 1);
    }
    if (column < COLUMNS - 1) {
      near |= 1 << (field + 1);
    }
    return near;
  }

  /** Everything that changes can change. It is copied for undo, snapshots, forecasts and texts. */
  private static final class State {
    private final Row standings = new Row(SCARECROWS);
    private int scarecrows;
    private int revoked;
    private final Row issuers = new Row(CERTIFICATES);
    private final Row subjects = new Row(CERTIFICATES);
    private final Row addresses = new Row(CERTIFICATES);
    private final Row lastDays = new Row(CERTIFICATES);
    private int certificates;
    private final Row grains = new Row(FIELDS);
    private int day;
    private int eaten;
    private int sown;

    State() {
      grains.fill(FIRST_GRAINS);
    }

    void copyFrom(State other) {
      standings.copyFrom(other.standings);
      scarecrows = other.scarecrows;
      revoked = other.revoked;
      issuers.copyFrom(other.issuers);
      subjects.copyFrom(other.subjects);
      addresses.copyFrom(other.addresses);
      lastDays.copyFrom(other.lastDays);
      certificates = other.certificates;
      grains.copyFrom(other.grains);
      day = other.day;
      eaten = other.eaten;
      sown = other.sown;
    }

    boolean hasScarecrow(int scarecrow) {
      return scarecrow >= 0 && scarecrow < scarecrows;
    }

    boolean hasCertificate(int certificate) {
      return certificate >= 0 && certificate < certificates;
    }

    int scarecrowAt(int field) {
      for (int scarecrow = 0; scarecrow < scarecrows; scarecrow++) {
        if (standings.get(scarecrow) == field) {
          return scarecrow;
        }
      }
      return NONE;
    }

    int addScarecrow(int field) {
      int scarecrow = scarecrows;
      standings.set(scarecrow, field);
      scarecrows++;
      return scarecrow;
    }

    int addCertificate(int issuer, int subject, int days) {
      int certificate = certificates;
      issuers.set(certificate, issuer);
      subjects.set(certificate, subject);
      addresses.set(certificate, standings.get(subject));
      lastDays.set(certificate, day + days);
      certificates++;
      return certificate;
    }

    void removeCertificate(int certificate) {
      issuers.remove(certificate);
      subjects.remove(certificate);
      addresses.remove(certificate);
      lastDays.remove(certificate);
      certificates--;
    }

    /**
     * The certificates that are held on a day and would be in force if just these scarecrows were
     * certified.
     */
    int backedBy(int certified, int onDay) {
      int backed = 0;
      for (int certificate = 0; certificate < certificates; certificate++) {
        int issuer = issuers.get(certificate);
        boolean hasIssuer = issuer == REGISTRY || has(certified, issuer);
        boolean hasAddress = standings.get(subjects.get(certificate)) == addresses.get(certificate);
        if (hasIssuer && hasAddress && lastDays.get(certificate) >= onDay) {
          backed |= 1 << certificate;
        }
      }
      return backed;
    }

    int subjectsOf(int someCertificates) {
      int found = 0;
      for (int certificate = 0; certificate < certificates; certificate++) {
        if (has(someCertificates, certificate)) {
          found |= 1 << subjects.get(certificate);
        }
      }
      return found;
    }

    /**
     * The scarecrows that chains of at most so many certificates reach from the registry on a day.
     * Growing from no scarecrow at all, so that certificates in a circle cannot support each other,
     * until a round adds nothing: then no later one would.
     */
    int certifiedWithin(int length, int onDay) {
      int certified = 0;
      int ofShorterChains = NONE;
      for (int round = 0; round < length && certified != ofShorterChains; round++) {
        ofShorterChains = certified;
        certified = subjectsOf(backedBy(certified, onDay)) & ~revoked;
      }
      return certified;
    }

    /** No chain needs to name a scarecrow twice, so it has at most as many certificates as they are. */
    int certifiedNow() {
      return certifiedWithin(SCARECROWS, day);
    }

    int inForceNow() {
      return backedBy(certifiedNow(), day);
    }

    /** Goes from a scarecrow to those that certify it, and on from these; each round finds more, or none. */
    boolean leadsBackToRegistry(int scarecrow) {
      int wanted = (1 << scarecrow) & ~revoked;
      for (int round = 0; round < SCARECROWS; round++) {
        for (int certificate = 0; certificate < certificates; certificate++) {
          int subject = subjects.get(certificate);
          if (has(wanted, subject) && standings.get(subject) == addresses.get(certificate)) {
            int issuer = issuers.get(certificate);
            if (issuer == REGISTRY) {
              return true;
            }
            wanted |= (1 << issuer) & ~revoked;
          }
        }
      }
      return false;
    }

    int countFor(int subject, int inForce) {
      int count = 0;
      for (int certificate = 0; certificate < certificates; certificate++) {
        if (has(inForce, certificate) && subjects.get(certificate) == subject) {
          count++;
        }
      }
      return count;
    }

    int rankOf(int scarecrow, int inForce) {
      int own = countFor(scarecrow, inForce);
      int rank = 0;
      for (int other = 0; other < scarecrows; other++) {
        int count = countFor(other, inForce);
        if (count > own || (count == own && other < scarecrow)) {
          rank++;
        }
      }
      return rank;
    }

    boolean isNearOneOf(int guards, int field) {
      for (int scarecrow = 0; scarecrow < scarecrows; scarecrow++) {
        if (has(guards, scarecrow) && distance(standings.get(scarecrow), field) <= 1) {
          return true;
        }
      }
      return false;
    }

    char signOf(int field, int certified) {
      int scarecrow = scarecrowAt(field);
      if (scarecrow == NONE) {
        return isNearOneOf(certified, field) ? '+' : '.';
      }
      if (has(revoked, scarecrow)) {
        return 'R';
      }
      return has(certified, scarecrow) ? 'C' : 'S';
    }

    /** Lets days pass and returns the grains that the crow eats in them. */
    int letDaysPass(int days) {
      int bites = 0;
      for (int passed = 0; passed < days; passed++) {
        day++;
        dropExpired();
        int field = lookOn(day);
        int left = grains.get(field);
        if (left > 0 && !isNearOneOf(certifiedWithin(SCARECROWS, day), field)) {
          grains.set(field, left - 1);
          bites++;
        }
      }
      eaten += bites;
      return bites;
    }

    private void dropExpired() {
      // From the last one down, because a removal shifts the later ones.
      for (int certificate = certificates - 1; certificate >= 0; certificate--) {
        if (lastDays.get(certificate) < day) {
          removeCertificate(certificate);
        }
      }
    }
  }

  /** The states before the latest changes, in slots that are used in turn. */
  private static final class History {
    private final State[] slots = new State[UNDO_LIMIT];
    private int oldest;
    private int count;

    History() {
      for (int index = 0; index < slots.length; index++) {
        slots[index] = new State();
      }
    }

    void remember(State earlier) {
      if (count >= UNDO_LIMIT) {
        oldest = Math.floorMod(oldest + 1, UNDO_LIMIT);
        count--;
      }
      State slot = slotAt(count);
      if (slot != null) {
        slot.copyFrom(earlier);
        count++;
      }
    }

    int takeLatestInto(State target) {
      State slot = slotAt(count - 1);
      if (slot != null) {
        target.copyFrom(slot);
        count--;
      }
      return count;
    }

    void forgetAll() {
      count = 0;
    }

    private State slotAt(int age) {
      int index = Math.floorMod(oldest + age, UNDO_LIMIT);
      return index >= 0 && index < slots.length ? slots[index] : null;
    }
  }

  /**
   * The kinds of command: the word each begins with, and the shape of what follows, in which 'd' is a
   * digit, 'n' a number and any other character itself.
   */
  private enum Kind {
    PUT("put ", "n"),
    MOVE("move ", "d>n"),
    REVOKE("revoke ", "d"),
    RESTORE("restore ", "d"),
    ROOT("root ", "d n"),
    ISSUE("issue ", "d>d n"),
    DROP("drop ", "n"),
    SOW("sow ", "n n"),
    WAIT("wait ", "n");

    private final String word;
    private final String shape;

    Kind(String word, String shape) {
      this.word = word;
      this.shape = shape;
    }
  }

  /** The text buffer, and the reading of it, command by command. */
  private static final class CommandText {
    private final Row characters = new Row(TEXT_LIMIT);
    private int length;
    /** Where reading goes on; where it failed, this is the first character that cannot stand there. */
    private int position;
    private Kind kind = Kind.PUT;
    private final Row parameters = new Row(MOST_PARAMETERS);

    int append(char character) {
      characters.set(length, character);
      length++;
      return length;
    }

    void clear() {
      length = 0;
    }

    void rewind() {
      position = 0;
    }

    /** Returns the number of commands, or NONE if the text does not match. */
    int countCommands() {
      rewind();
      for (int commands = 1; commands <= TEXT_LIMIT; commands++) {
        if (!readCommand()) {
          return NONE;
        }
        if (position == length) {
          return commands;
        }
      }
      return NONE;
    }

    /** Reads a command, with the ";" ahead of it if it is not the first one. */
    boolean readCommand() {
      return (position == 0 || readSign(';')) && readWord() && readParameters();
    }

    /** The words differ before any of them ends, so the one that matches furthest tells the fault. */
    private boolean readWord() {
      int furthest = 0;
      for (int index = 0; index < KINDS.length; index++) {
        Kind candidate = KINDS[index];
        int matching = countMatching(candidate.word);
        if (matching == candidate.word.length()) {
          kind = candidate;
          position += matching;
          return true;
        }
        furthest = Math.max(furthest, matching);
      }
      position += furthest;
      return false;
    }

    private int countMatching(String word) {
      for (int index = 0; index < word.length(); index++) {
        if (signAt(position + index) != word.charAt(index)) {
          return index;
        }
      }
      return word.length();
    }

    private boolean readParameters() {
      int count = 0;
      for (int index = 0; index < kind.shape.length(); index++) {
        char part = kind.shape.charAt(index);
        if (part == 'd' || part == 'n') {
          int value = readDigits(part == 'd' ? 1 : 2);
          if (value == NONE) {
            return false;
          }
          parameters.set(count, value);
          count++;
        } else if (!readSign(part)) {
          return false;
        }
      }
      return true;
    }

    private boolean readSign(char sign) {
      if (signAt(position) != sign) {
        return false;
      }
      position++;
      return true;
    }

    private int readDigits(int most) {
      int value = 0;
      for (int digits = 0; digits < most; digits++) {
        int sign = signAt(position);
        if (sign < '0' || sign > '9') {
          return digits == 0 ? NONE : value;
        }
        value = 10 * value + (sign - '0');
        position++;
      }
      return value;
    }

    private int signAt(int index) {
      return index < length ? characters.get(index) : NONE;
    }
  }

  /** A row of numbers that tests every index before using it. */
  private static final class Row {
    private final int[] cells;

    Row(int length) {
      cells = new int[Math.max(length, 0)];
    }

    int get(int index) {
      return index >= 0 && index < cells.length ? cells[index] : 0;
    }

    void set(int index, int value) {
      if (index >= 0 && index < cells.length) {
        cells[index] = value;
      }
    }

    void fill(int value) {
      for (int index = 0; index < cells.length; index++) {
        cells[index] = value;
      }
    }

    /** Takes a cell out by moving the later ones down. */
    void remove(int index) {
      if (index >= 0 && index < cells.length) {
        for (int cell = index; cell < cells.length - 1; cell++) {
          cells[cell] = cells[cell + 1];
        }
      }
    }

    void copyFrom(Row other) {
      System.arraycopy(other.cells, 0, cells, 0, Math.min(other.cells.length, cells.length));
    }
  }
}
