import java.util.Arrays;

/**
 * A ledger of a patent pool. What it promises stands in the project's document, promise by promise.
 *
 * <p>What a pool text fixes is held in {@link Terms}; everything that a change can change is held in
 * one {@link Ledger}, so that undo and snapshots are copies of a whole ledger.
 */
public final class PatentPool {

    public static final int NONE = -1;

    private static final int MAX_TEXT = 700;
    private static final int BYTES_OF_APPEND = 20;
    private static final int MAX_MEMBERS = 8;
    private static final int MAX_VERSIONS = 4;
    private static final int MAX_PATENTS = 16;
    private static final int MAX_LICENSEES = 6;
    private static final int REVIEWERS = 5;
    private static final int MAX_UNDO = 10;
    private static final int SLOTS = 2;

    private static final int MAX_NUMBER = 9999;
    private static final int LAST_DAY = 9999;
    private static final int MAX_AUDIT = 99999;
    private static final int MAX_SHARED = 1000000000;
    private static final int MAX_WEIGHT = 1000000;
    private static final int MAX_OPEN_BRACKETS = 5;

    private static final int OPEN = 0;
    private static final int POSITIVE = 1;
    private static final int NEGATIVE = 2;

    private static final int FINE = 0;
    private static final int BAD_TOKEN = 1;
    private static final int SECOND_STATEMENT = 2;
    private static final int OUT_OF_RANGE = 3;
    private static final int BEYOND_LIMIT = 4;

    private static final int MEMBER = 0;
    private static final int VERSION = 1;
    private static final int PATENT = 2;
    private static final int LICENSEE = 3;
    private static final int QUORUM = 4;
    private static final int CAP = 5;
    private static final int COSTS = 6;
    private static final int RESERVE = 7;
    private static final int LATE = 8;
    private static final int CREDIT = 9;
    private static final int PENALTY = 10;
    private static final int WEIGHT = 11;

    private static final int END = 0;
    private static final int WORD = 1;
    private static final int NUMBER = 2;
    private static final int SIGN = 3;
    private static final int INVALID = 4;

    // In a formula numbers are 0 or more, so that all other codes are below 0.
    private static final int PATENTS_CODE = -1;
    private static final int PAIRS_CODE = -2;
    private static final int DAYS_CODE = -3;
    private static final int ADD_CODE = -4;
    private static final int SUBTRACT_CODE = -5;
    private static final int MULTIPLY_CODE = -6;
    private static final int DIVIDE_CODE = -7;

    // Six levels (five brackets) with two waiting operands each, and the operand at hand: 13.
    private static final int STACK = 16;

    private final byte[] text;
    private int textLength;
    private int errorPosition;
    private final Parser parser;
    private final Terms terms;
    private final Ledger ledger;
    private final Assessor assessor;
    private final Divider divider;
    private final History history;
    private final Ledger[] slots;

    public PatentPool() {
        text = new byte[MAX_TEXT];
        textLength = 0;
        errorPosition = NONE;
        parser = new Parser(text);
        terms = new Terms();
        ledger = new Ledger();
        assessor = new Assessor(terms, ledger);
        divider = new Divider();
        history = new History();
        slots = new Ledger[SLOTS];
    }

    // ---- pool

    public int append(int a, int b, int c, int d, int e) {
        if (textLength + BYTES_OF_APPEND > MAX_TEXT) {
            return NONE;
        }
        appendFour(a);
        appendFour(b);
        appendFour(c);
        appendFour(d);
        appendFour(e);
        return textLength;
    }

    private void appendFour(int bytes) {
        for (int shift = 24; shift >= 0 && textLength < text.length; shift -= 8) {
            text[textLength] = (byte) (bytes >>> shift);
            textLength++;
        }
    }

    public int parse(int length) throws IllegalArgumentException {
        if (length < 0 || length > textLength) {
            throw new IllegalArgumentException("length is out of range");
        }
        textLength = 0;
        int error = parser.readPool(length);
        if (error == FINE) {
            errorPosition = NONE;
            startOver();
        } else {
            errorPosition = parser.position();
        }
        return error;
    }

    private void startOver() {
        terms.copyFrom(parser.terms);
        ledger.copyFrom(parser.ledger);
        history.clear();
        for (int slot = 0; slot < slots.length; slot++) {
            slots[slot] = null;
        }
    }

    public int errorPosition() {
        return errorPosition;
    }

    public int size(int what) throws IllegalArgumentException {
        switch (what) {
            case 0:
                return ledger.members;
            case 1:
                return terms.versions;
            case 2:
                return ledger.patents;
            case 3:
                return terms.licensees;
            default:
                throw new IllegalArgumentException("what is out of range");
        }
    }

    public int today() {
        return ledger.day;
    }

    public int period() {
        return ledger.period;
    }

    // ---- decisions

    public int decision(int patent, int version) throws IndexOutOfBoundsException {
        checkPatent(patent);
        checkVersion(version);
        return assessor.decide(patent, version);
    }

    public int voters(int patent, int version, boolean yes) throws IndexOutOfBoundsException {
        checkPatent(patent);
        checkVersion(version);
        int pair = pairOf(patent, version);
        return yes ? ledger.yesVotes[pair] : ledger.noVotes[pair];
    }

    public int votesNeeded(int patent, int version) throws IndexOutOfBoundsException {
        checkPatent(patent);
        checkVersion(version);
        return assessor.missingVotes(patent, version);
    }

    public boolean counts(int patent, int version) throws IndexOutOfBoundsException {
        checkPatent(patent);
        checkVersion(version);
        return assessor.countsOn(patent, version, ledger.day);
    }

    public int firstToExpire(int member) throws IndexOutOfBoundsException {
        checkMember(member);
        int first = NONE;
        for (int patent = 0; patent < ledger.patents; patent++) {
            if (ledger.owner[patent] == member && assessor.inForceOn(patent, ledger.day)
                    && (first == NONE || ledger.expiry[patent] < ledger.expiry[first])) {
                first = patent;
            }
        }
        return first;
    }

    // ---- weights and shares

    public int weight(int member) throws IndexOutOfBoundsException {
        checkMember(member);
        return assessor.weightOn(member, ledger.day);
    }

    public int weightAfter(int member, int days)
            throws IndexOutOfBoundsException, IllegalArgumentException {
        checkMember(member);
        if (days < 0 || days > MAX_NUMBER) {
            throw new IllegalArgumentException("days is out of range");
        }
        return assessor.weightOn(member, ledger.day + days);
    }

    public int shareOf(int member, int amount)
            throws IndexOutOfBoundsException, IllegalArgumentException {
        checkMember(member);
        if (amount < 0 || amount > MAX_SHARED) {
            throw new IllegalArgumentException("amount is out of range");
        }
        weighMembers();
        divider.divide(amount, terms.cap);
        return (int) divider.shares[member];
    }

    public int smallestMajority() {
        weighMembers();
        int allSets = 1 << ledger.members;
        int best = NONE;
        for (int set = 1; set < allSets; set++) {
            if (divider.isMajority(set)
                    && (best == NONE || Integer.bitCount(set) < Integer.bitCount(best))) {
                best = set;
            }
        }
        return best;
    }

    public int power(int member) throws IndexOutOfBoundsException {
        checkMember(member);
        weighMembers();
        int allSets = 1 << ledger.members;
        int own = 1 << member;
        int number = 0;
        for (int set = 0; set < allSets; set++) {
            if ((set & own) == 0 && !divider.isMajority(set) && divider.isMajority(set | own)) {
                number++;
            }
        }
        return number;
    }

    private void weighMembers() {
        for (int member = 0; member < MAX_MEMBERS; member++) {
            divider.weights[member] =
                    member < ledger.members ? assessor.weightOn(member, ledger.day) : 0;
        }
    }

    // ---- money

    public long owed(int licensee) throws IndexOutOfBoundsException {
        checkLicensee(licensee);
        return ledger.debts[licensee];
    }

    public int reported(int licensee, int version) throws IndexOutOfBoundsException {
        checkLicensee(licensee);
        checkVersion(version);
        return ledger.units[pairOf(licensee, version)];
    }

    public long account(int member) throws IndexOutOfBoundsException {
        checkMember(member);
        return ledger.accounts[member];
    }

    public long latestShare(int member) throws IndexOutOfBoundsException {
        checkMember(member);
        return ledger.latestShares[member];
    }

    public long total(int what) throws IllegalArgumentException {
        switch (what) {
            case 0:
                return ledger.received;
            case 1:
                return ledger.costs;
            case 2:
                return ledger.reserve;
            case 3:
                return ledger.paid;
            case 4:
                return ledger.paidOut;
            default:
                throw new IllegalArgumentException("what is out of range");
        }
    }

    public int largestDebtor() {
        int largest = NONE;
        long most = 0;
        for (int licensee = 0; licensee < terms.licensees; licensee++) {
            if (ledger.debts[licensee] > most) {
                largest = licensee;
                most = ledger.debts[licensee];
            }
        }
        return largest;
    }

    // ---- changes: days, members, patents, votes

    public int advance(int days) throws IllegalArgumentException, IllegalStateException {
        if (days < 1 || days > MAX_NUMBER) {
            throw new IllegalArgumentException("days is out of range");
        }
        if (ledger.day + days > LAST_DAY) {
            throw new IllegalStateException("the day would be too late");
        }
        history.remember(ledger);
        ledger.day += days;
        return ledger.day;
    }

    public int join() throws IllegalStateException {
        if (ledger.members >= MAX_MEMBERS) {
            throw new IllegalStateException("there are too many members");
        }
        history.remember(ledger);
        return ledger.addMember(ledger.day);
    }

    public int declare(int member, int expiry)
            throws IndexOutOfBoundsException, IllegalArgumentException, IllegalStateException {
        checkMember(member);
        if (expiry <= ledger.day || expiry > LAST_DAY) {
            throw new IllegalArgumentException("expiry is out of range");
        }
        if (ledger.patents >= MAX_PATENTS) {
            throw new IllegalStateException("there are too many patents");
        }
        history.remember(ledger);
        return ledger.addPatent(member, expiry);
    }

    public int vote(int reviewer, int patent, int version, boolean yes)
            throws IndexOutOfBoundsException, IllegalStateException {
        if (reviewer < 0 || reviewer >= REVIEWERS) {
            throw new IndexOutOfBoundsException("there is no such reviewer");
        }
        checkPatent(patent);
        checkVersion(version);
        if (!assessor.releasedOn(version, ledger.day) || !assessor.inForceOn(patent, ledger.day)) {
            throw new IllegalStateException("the version is not released or the patent not in force");
        }
        history.remember(ledger);
        int pair = pairOf(patent, version);
        int own = 1 << reviewer;
        ledger.yesVotes[pair] = yes ? ledger.yesVotes[pair] | own : ledger.yesVotes[pair] & ~own;
        ledger.noVotes[pair] = yes ? ledger.noVotes[pair] & ~own : ledger.noVotes[pair] | own;
        return assessor.decide(patent, version);
    }

    public int reopen(int patent, int version)
            throws IndexOutOfBoundsException, IllegalStateException {
        checkPatent(patent);
        checkVersion(version);
        int pair = pairOf(patent, version);
        int removed = Integer.bitCount(ledger.yesVotes[pair] | ledger.noVotes[pair]);
        if (removed == 0) {
            throw new IllegalStateException("there are no votes");
        }
        history.remember(ledger);
        ledger.yesVotes[pair] = 0;
        ledger.noVotes[pair] = 0;
        return removed;
    }

    // ---- changes: money

    public int report(int licensee, int version, int units)
            throws IndexOutOfBoundsException, IllegalArgumentException, IllegalStateException {
        checkLicensee(licensee);
        checkVersion(version);
        if (units < 1 || units > MAX_NUMBER) {
            throw new IllegalArgumentException("units is out of range");
        }
        if (!assessor.releasedOn(version, ledger.day)) {
            throw new IllegalStateException("the version is not released");
        }
        history.remember(ledger);
        long royalty = royaltyOf(licensee, version, units);
        ledger.debts[licensee] += royalty;
        ledger.units[pairOf(licensee, version)] += units;
        return (int) royalty;
    }

    public int grantBack(int licensee) throws IndexOutOfBoundsException, IllegalStateException {
        checkLicensee(licensee);
        int own = 1 << licensee;
        if ((ledger.credited & own) != 0) {
            throw new IllegalStateException("there was a credit in this period already");
        }
        long part = ledger.debts[licensee] * terms.creditPercent / 100;
        int credit = (int) Math.min(part, terms.creditAmount);
        if (credit == 0) {
            throw new IllegalStateException("the credit would be 0");
        }
        history.remember(ledger);
        ledger.debts[licensee] -= credit;
        ledger.credited |= own;
        return credit;
    }

    public long pay(int licensee, int amount)
            throws IndexOutOfBoundsException, IllegalArgumentException {
        checkLicensee(licensee);
        if (amount < 1 || amount > ledger.debts[licensee]) {
            throw new IllegalArgumentException("amount is out of range");
        }
        history.remember(ledger);
        ledger.debts[licensee] -= amount;
        ledger.received += amount;
        ledger.paid += amount;
        return ledger.debts[licensee];
    }

    public long audit(int licensee, int version, int units)
            throws IndexOutOfBoundsException, IllegalArgumentException {
        checkLicensee(licensee);
        checkVersion(version);
        if (units < 0 || units > MAX_AUDIT) {
            throw new IllegalArgumentException("units is out of range");
        }
        history.remember(ledger);
        int pair = pairOf(licensee, version);
        int difference = units - ledger.units[pair];
        if (difference <= 0) {
            return 0;
        }
        long royalty = royaltyOf(licensee, version, difference);
        long more = royalty + royalty * terms.penalty / 100;
        ledger.debts[licensee] += more;
        ledger.units[pair] = units;
        return more;
    }

    private long royaltyOf(int licensee, int version, int units) {
        return (long) units * terms.price[version] * (100 - terms.discount[licensee]) / 100;
    }

    public long close() throws IllegalStateException {
        if (ledger.received == 0) {
            throw new IllegalStateException("nothing was received");
        }
        history.remember(ledger);
        long toCosts = ledger.received * terms.costs / 100;
        long toReserve = ledger.received * terms.reserve / 100;
        long amount = ledger.received - toCosts - toReserve;
        weighMembers();
        divider.divide(amount, terms.cap);
        ledger.costs += toCosts;
        ledger.reserve += toReserve + divider.rest;
        ledger.bookShares(divider.shares);
        ledger.beginPeriod();
        return amount - divider.rest;
    }

    public long payOut(int member) throws IndexOutOfBoundsException, IllegalStateException {
        checkMember(member);
        long amount = ledger.accounts[member];
        if (amount == 0) {
            throw new IllegalStateException("the account is 0");
        }
        history.remember(ledger);
        ledger.accounts[member] = 0;
        ledger.paidOut += amount;
        return amount;
    }

    // ---- undo and snapshots

    public int undo() {
        return history.takeBack(ledger);
    }

    public boolean saveSnapshot(int slot) throws IndexOutOfBoundsException {
        checkSlot(slot);
        Ledger earlier = slots[slot];
        if (earlier != null) {
            earlier.copyFrom(ledger);
            return true;
        }
        Ledger snapshot = new Ledger();
        snapshot.copyFrom(ledger);
        slots[slot] = snapshot;
        return false;
    }

    public int restoreSnapshot(int slot) throws IndexOutOfBoundsException, IllegalStateException {
        checkSlot(slot);
        Ledger snapshot = slots[slot];
        if (snapshot == null) {
            throw new IllegalStateException("the slot is empty");
        }
        ledger.copyFrom(snapshot);
        history.clear();
        return ledger.day;
    }

    // ---- numbers that do not exist

    private void checkMember(int member) {
        if (member < 0 || member >= ledger.members) {
            throw new IndexOutOfBoundsException("there is no such member");
        }
    }

    private void checkVersion(int version) {
        if (version < 0 || version >= terms.versions) {
            throw new IndexOutOfBoundsException("there is no such version");
        }
    }

    private void checkPatent(int patent) {
        if (patent < 0 || patent >= ledger.patents) {
            throw new IndexOutOfBoundsException("there is no such patent");
        }
    }

    private void checkLicensee(int licensee) {
        if (licensee < 0 || licensee >= terms.licensees) {
            throw new IndexOutOfBoundsException("there is no such licensee");
        }
    }

    private void checkSlot(int slot) {
        if (slot < 0 || slot >= slots.length) {
            throw new IndexOutOfBoundsException("there is no such slot");
        }
    }

    /** The index in a row that has an element for each patent (or licensee) and version. */
    private static int pairOf(int patentOrLicensee, int version) {
        return patentOrLicensee * MAX_VERSIONS + version;
    }

    /** What a pool text fixes and no change can change. */
    private static final class Terms {
        int versions;
        final int[] releaseDay;
        final int[] price;
        int licensees;
        final int[] discount;
        int quorumVotes;
        int quorumPercent;
        int cap;
        int costs;
        int reserve;
        int lateDays;
        int latePercent;
        int creditAmount;
        int creditPercent;
        int penalty;
        final Formula formula;

        Terms() {
            releaseDay = new int[MAX_VERSIONS];
            price = new int[MAX_VERSIONS];
            discount = new int[MAX_LICENSEES];
            formula = new Formula();
            reset();
        }

        /** Sets what holds without any statement. */
        void reset() {
            versions = 0;
            licensees = 0;
            quorumVotes = 3;
            quorumPercent = 50;
            cap = 100;
            costs = 10;
            reserve = 5;
            lateDays = 0;
            latePercent = 100;
            creditAmount = 1000;
            creditPercent = 20;
            penalty = 50;
            formula.clear();
            formula.add(PATENTS_CODE);
        }

        void copyFrom(Terms other) {
            versions = other.versions;
            System.arraycopy(other.releaseDay, 0, releaseDay, 0, MAX_VERSIONS);
            System.arraycopy(other.price, 0, price, 0, MAX_VERSIONS);
            licensees = other.licensees;
            System.arraycopy(other.discount, 0, discount, 0, MAX_LICENSEES);
            quorumVotes = other.quorumVotes;
            quorumPercent = other.quorumPercent;
            cap = other.cap;
            costs = other.costs;
            reserve = other.reserve;
            lateDays = other.lateDays;
            latePercent = other.latePercent;
            creditAmount = other.creditAmount;
            creditPercent = other.creditPercent;
            penalty = other.penalty;
            formula.copyFrom(other.formula);
        }

        void addVersion(int day, int cents) {
            if (versions < MAX_VERSIONS) {
                releaseDay[versions] = day;
                price[versions] = cents;
                versions++;
            }
        }

        void addLicensee(int percent) {
            if (licensees < MAX_LICENSEES) {
                discount[licensees] = percent;
                licensees++;
            }
        }
    }

    /** Everything that changes can change, and nothing else. */
    private static final class Ledger {
        int day;
        int period;
        int members;
        final int[] joinDay;
        int patents;
        final int[] owner;
        final int[] expiry;
        final int[] yesVotes;
        final int[] noVotes;
        final int[] units;
        final long[] debts;
        int credited;
        final long[] accounts;
        final long[] latestShares;
        long received;
        long costs;
        long reserve;
        long paid;
        long paidOut;

        Ledger() {
            joinDay = new int[MAX_MEMBERS];
            owner = new int[MAX_PATENTS];
            expiry = new int[MAX_PATENTS];
            yesVotes = new int[MAX_PATENTS * MAX_VERSIONS];
            noVotes = new int[MAX_PATENTS * MAX_VERSIONS];
            units = new int[MAX_LICENSEES * MAX_VERSIONS];
            debts = new long[MAX_LICENSEES];
            accounts = new long[MAX_MEMBERS];
            latestShares = new long[MAX_MEMBERS];
        }

        void copyFrom(Ledger other) {
            day = other.day;
            period = other.period;
            members = other.members;
            System.arraycopy(other.joinDay, 0, joinDay, 0, MAX_MEMBERS);
            patents = other.patents;
            System.arraycopy(other.owner, 0, owner, 0, MAX_PATENTS);
            System.arraycopy(other.expiry, 0, expiry, 0, MAX_PATENTS);
            System.arraycopy(other.yesVotes, 0, yesVotes, 0, MAX_PATENTS * MAX_VERSIONS);
            System.arraycopy(other.noVotes, 0, noVotes, 0, MAX_PATENTS * MAX_VERSIONS);
            System.arraycopy(other.units, 0, units, 0, MAX_LICENSEES * MAX_VERSIONS);
            System.arraycopy(other.debts, 0, debts, 0, MAX_LICENSEES);
            credited = other.credited;
            System.arraycopy(other.accounts, 0, accounts, 0, MAX_MEMBERS);
            System.arraycopy(other.latestShares, 0, latestShares, 0, MAX_MEMBERS);
            received = other.received;
            costs = other.costs;
            reserve = other.reserve;
            paid = other.paid;
            paidOut = other.paidOut;
        }

        /** The row must not be full. */
        int addMember(int firstDay) {
            if (members >= MAX_MEMBERS) {
                return NONE;
            }
            joinDay[members] = firstDay;
            members++;
            return members - 1;
        }

        /** The row must not be full. */
        int addPatent(int member, int expiryDay) {
            if (patents >= MAX_PATENTS) {
                return NONE;
            }
            owner[patents] = member;
            expiry[patents] = expiryDay;
            patents++;
            return patents - 1;
        }

        void bookShares(long[] shares) {
            for (int member = 0; member < MAX_MEMBERS && member < shares.length; member++) {
                accounts[member] += shares[member];
                latestShares[member] = shares[member];
            }
        }

        void beginPeriod() {
            period++;
            received = 0;
            credited = 0;
            Arrays.fill(units, 0);
        }
    }

    /** The sum of weight in postfix form, so that its evaluation needs no recursion. */
    private static final class Formula {
        private final int[] codes;
        private int length;
        private final int[] stack;

        Formula() {
            codes = new int[MAX_TEXT];
            length = 0;
            stack = new int[STACK];
        }

        void clear() {
            length = 0;
        }

        void add(int code) {
            if (length < codes.length) {
                codes[length] = code;
                length++;
            }
        }

        void copyFrom(Formula other) {
            System.arraycopy(other.codes, 0, codes, 0, MAX_TEXT);
            length = other.length;
        }

        int evaluate(int patents, int pairs, int days) {
            int top = 0;
            for (int at = 0; at < length && at < codes.length; at++) {
                int code = codes[at];
                if (code <= ADD_CODE && top >= 2) {
                    top--;
                    stack[top - 1] = combined(code, stack[top - 1], stack[top]);
                } else if (code > ADD_CODE && top < stack.length) {
                    stack[top] = operand(code, patents, pairs, days);
                    top++;
                }
            }
            return stack[0];
        }

        private static int operand(int code, int patents, int pairs, int days) {
            switch (code) {
                case PATENTS_CODE:
                    return patents;
                case PAIRS_CODE:
                    return pairs;
                case DAYS_CODE:
                    return days;
                default:
                    return code;
            }
        }

        private static int combined(int code, int left, int right) {
            switch (code) {
                case ADD_CODE:
                    return left + right;
                case SUBTRACT_CODE:
                    return left - right;
                case MULTIPLY_CODE:
                    return left * right;
                default:
                    return right == 0 ? 0 : left / right;
            }
        }
    }

    /** Tells what follows from terms and a ledger: decisions, what counts, weights. */
    private static final class Assessor {
        private final Terms terms;
        private final Ledger ledger;

        Assessor(Terms terms, Ledger ledger) {
            this.terms = terms;
            this.ledger = ledger;
        }

        int decide(int patent, int version) {
            int pair = pairOf(patent, version);
            int yes = ledger.yesVotes[pair];
            return outcome(Integer.bitCount(yes | ledger.noVotes[pair]), Integer.bitCount(yes));
        }

        private int outcome(int votes, int yes) {
            if (votes < terms.quorumVotes) {
                return OPEN;
            }
            return yes * 100 >= terms.quorumPercent * votes ? POSITIVE : NEGATIVE;
        }

        int missingVotes(int patent, int version) {
            int pair = pairOf(patent, version);
            int yes = Integer.bitCount(ledger.yesVotes[pair]);
            int votes = yes + Integer.bitCount(ledger.noVotes[pair]);
            for (int more = 0; votes + more <= REVIEWERS; more++) {
                if (outcome(votes + more, yes + more) == POSITIVE) {
                    return more;
                }
            }
            return NONE;
        }

        boolean releasedOn(int version, int day) {
            return day >= terms.releaseDay[version];
        }

        boolean inForceOn(int patent, int day) {
            return day < ledger.expiry[patent];
        }

        boolean countsOn(int patent, int version, int day) {
            return releasedOn(version, day) && inForceOn(patent, day)
                    && day >= ledger.joinDay[ledger.owner[patent]]
                    && decide(patent, version) == POSITIVE;
        }

        int weightOn(int member, int day) {
            int days = day - ledger.joinDay[member];
            if (days < 0) {
                return 0;
            }
            int patents = 0;
            int pairs = 0;
            for (int patent = 0; patent < ledger.patents; patent++) {
                int versions = ledger.owner[patent] == member ? versionsOn(patent, day) : 0;
                pairs += versions;
                patents += versions > 0 ? 1 : 0;
            }
            int value = terms.formula.evaluate(patents, pairs, days);
            value = Math.max(0, Math.min(value, MAX_WEIGHT));
            return days < terms.lateDays ? value * terms.latePercent / 100 : value;
        }

        /** The number of versions for which a patent counts. */
        private int versionsOn(int patent, int day) {
            int number = 0;
            for (int version = 0; version < terms.versions; version++) {
                number += countsOn(patent, version, day) ? 1 : 0;
            }
            return number;
        }
    }

    /** Shares an amount by weights, and tells which sets of members have a majority of them. */
    private static final class Divider {
        final int[] weights;
        final long[] shares;
        long rest;
        private final boolean[] open;
        private final long[] remainders;

        Divider() {
            weights = new int[MAX_MEMBERS];
            shares = new long[MAX_MEMBERS];
            open = new boolean[MAX_MEMBERS];
            remainders = new long[MAX_MEMBERS];
        }

        boolean isMajority(int set) {
            int inside = 0;
            int outside = 0;
            for (int member = 0; member < MAX_MEMBERS; member++) {
                if ((set >> member & 1) != 0) {
                    inside += weights[member];
                } else {
                    outside += weights[member];
                }
            }
            return inside > outside;
        }

        /** Leaves the shares in their row and what goes to the reserve in rest. */
        void divide(long amount, int capPercent) {
            long limit = amount * capPercent / 100;
            rest = amount;
            for (int member = 0; member < MAX_MEMBERS; member++) {
                shares[member] = 0;
                open[member] = weights[member] > 0;
            }
            boolean again = true;
            for (int round = 0; round < MAX_MEMBERS && again; round++) {
                again = closeAbove(limit);
            }
            giveQuotas();
            giveRemainders(limit);
        }

        private long openWeight() {
            long sum = 0;
            for (int member = 0; member < MAX_MEMBERS; member++) {
                sum += open[member] ? weights[member] : 0;
            }
            return sum;
        }

        /** A limit can be 0, so that a member who is not open any more need not lessen the rest. */
        private boolean closeAbove(long limit) {
            long sum = openWeight();
            if (sum <= 0) {
                return false;
            }
            long before = rest;
            boolean some = false;
            for (int member = 0; member < MAX_MEMBERS; member++) {
                if (open[member] && before * weights[member] / sum > limit) {
                    shares[member] = limit;
                    open[member] = false;
                    rest -= limit;
                    some = true;
                }
            }
            return some;
        }

        private void giveQuotas() {
            long sum = openWeight();
            if (sum <= 0) {
                return;
            }
            long before = rest;
            for (int member = 0; member < MAX_MEMBERS; member++) {
                if (open[member]) {
                    long product = before * weights[member];
                    shares[member] = product / sum;
                    remainders[member] = product % sum;
                    rest -= shares[member];
                }
            }
        }

        private void giveRemainders(long limit) {
            for (int turn = 0; turn < MAX_MEMBERS && rest > 0; turn++) {
                int member = openWithLargestRemainder();
                if (member == NONE) {
                    return;
                }
                open[member] = false;
                if (shares[member] < limit) {
                    shares[member]++;
                    rest--;
                }
            }
        }

        private int openWithLargestRemainder() {
            int largest = NONE;
            for (int member = 0; member < MAX_MEMBERS; member++) {
                if (open[member] && (largest == NONE || remainders[member] > remainders[largest])) {
                    largest = member;
                }
            }
            return largest;
        }
    }

    /** The ledgers as they were before the latest changes, in a ring. */
    private static final class History {
        private final Ledger[] ring;
        private int newest;
        private int number;

        History() {
            ring = new Ledger[MAX_UNDO];
            newest = 0;
            number = 0;
        }

        void clear() {
            number = 0;
        }

        void remember(Ledger ledger) {
            newest = newest + 1 < ring.length ? newest + 1 : 0;
            Ledger row = ring[newest];
            if (row == null) {
                row = new Ledger();
                ring[newest] = row;
            }
            row.copyFrom(ledger);
            number = Math.min(number + 1, MAX_UNDO);
        }

        int takeBack(Ledger ledger) {
            Ledger before = ring[newest];
            if (number == 0 || before == null) {
                return NONE;
            }
            ledger.copyFrom(before);
            newest = newest > 0 ? newest - 1 : ring.length - 1;
            number--;
            return number;
        }
    }

    /** Cuts a text into tokens; the present one is described by the fields. */
    private static final class Tokens {
        private static final int LONGEST_WORD = 8;
        private static final int LONGEST_NUMBER = 4;

        private final byte[] text;
        private int length;
        private int end;
        int kind;
        int start;
        int value;

        Tokens(byte[] text) {
            this.text = text;
        }

        /** Goes to the first token of the first bytes. */
        void begin(int bytes) {
            length = Math.min(bytes, text.length);
            end = 0;
            next();
        }

        void next() {
            start = end;
            while (start < length && (text[start] == ' ' || text[start] == '\n')) {
                start++;
            }
            value = 0;
            if (start >= length) {
                end = start;
                kind = END;
            } else if (text[start] >= 'a' && text[start] <= 'z') {
                end = endOfRun('a', 'z');
                kind = end - start <= LONGEST_WORD ? WORD : INVALID;
            } else if (text[start] >= '0' && text[start] <= '9') {
                end = endOfRun('0', '9');
                kind = end - start <= LONGEST_NUMBER ? NUMBER : INVALID;
                value = kind == NUMBER ? numberAtStart() : 0;
            } else {
                end = start + 1;
                value = text[start];
                kind = value == ';' || value >= '(' && value <= '+' || value == '-' || value == '/'
                        ? SIGN : INVALID;
            }
        }

        private int endOfRun(int low, int high) {
            int at = start;
            while (at < length && text[at] >= low && text[at] <= high) {
                at++;
            }
            return at;
        }

        private int numberAtStart() {
            int number = 0;
            for (int at = start; at < end; at++) {
                number = number * 10 + (text[at] - '0');
            }
            return number;
        }

        boolean isWord(String word) {
            if (kind != WORD || end - start != word.length()) {
                return false;
            }
            for (int at = 0; at < word.length(); at++) {
                if (text[start + at] != word.charAt(at)) {
                    return false;
                }
            }
            return true;
        }

        boolean isSign(char sign) {
            return kind == SIGN && value == sign;
        }
    }

    /**
     * Reads a pool text into terms and a ledger of its own, so that an error leaves the pool as it is.
     * Its methods return the code of an error, whose place is always the present token.
     */
    private static final class Parser {
        final Terms terms;
        final Ledger ledger;
        private final Ledger blank;
        private final Tokens tokens;
        private int seen;
        private int first;
        private int second;

        Parser(byte[] text) {
            terms = new Terms();
            ledger = new Ledger();
            blank = new Ledger();
            tokens = new Tokens(text);
        }

        int position() {
            return tokens.start;
        }

        int readPool(int length) {
            terms.reset();
            ledger.copyFrom(blank);
            seen = 0;
            tokens.begin(length);
            int error = FINE;
            for (int count = 0; count < MAX_TEXT && error == FINE && tokens.kind != END; count++) {
                error = readStatement();
            }
            return error;
        }

        private int readStatement() {
            int statement = statementAtToken();
            int error = admit(statement);
            if (error != FINE) {
                return error;
            }
            tokens.next();
            if (statement == WEIGHT) {
                terms.formula.clear();
                error = readSum(0);
            } else {
                error = readNumbers(statement);
            }
            if (error != FINE) {
                return error;
            }
            if (!tokens.isSign(';')) {
                return BAD_TOKEN;
            }
            keep(statement);
            tokens.next();
            return FINE;
        }

        private int statementAtToken() {
            if (tokens.isWord("member")) {
                return MEMBER;
            } else if (tokens.isWord("version")) {
                return VERSION;
            } else if (tokens.isWord("patent")) {
                return PATENT;
            } else if (tokens.isWord("licensee")) {
                return LICENSEE;
            } else if (tokens.isWord("quorum")) {
                return QUORUM;
            } else if (tokens.isWord("cap")) {
                return CAP;
            } else if (tokens.isWord("costs")) {
                return COSTS;
            } else if (tokens.isWord("reserve")) {
                return RESERVE;
            } else if (tokens.isWord("late")) {
                return LATE;
            } else if (tokens.isWord("credit")) {
                return CREDIT;
            } else if (tokens.isWord("penalty")) {
                return PENALTY;
            } else if (tokens.isWord("weight")) {
                return WEIGHT;
            }
            return NONE;
        }

        private int admit(int statement) {
            switch (statement) {
                case NONE:
                    return BAD_TOKEN;
                case MEMBER:
                    return ledger.members < MAX_MEMBERS ? FINE : BEYOND_LIMIT;
                case VERSION:
                    return terms.versions < MAX_VERSIONS ? FINE : BEYOND_LIMIT;
                case PATENT:
                    return ledger.patents < MAX_PATENTS ? FINE : BEYOND_LIMIT;
                case LICENSEE:
                    return terms.licensees < MAX_LICENSEES ? FINE : BEYOND_LIMIT;
                default:
                    return (seen >> statement & 1) == 0 ? FINE : SECOND_STATEMENT;
            }
        }

        private int readNumbers(int statement) {
            switch (statement) {
                case MEMBER:
                    return readOne(0, LAST_DAY);
                case VERSION:
                    return readTwo(0, LAST_DAY, 1, MAX_NUMBER);
                case PATENT:
                    return readTwo(0, ledger.members - 1, 1, LAST_DAY);
                case LICENSEE:
                    return readOne(0, 100);
                case QUORUM:
                    return readTwo(1, REVIEWERS, 1, 100);
                case CAP:
                    return readOne(1, 100);
                case COSTS:
                    return readOne(0, 50);
                case RESERVE:
                    return readOne(0, 40);
                case LATE:
                    return readTwo(0, MAX_NUMBER, 0, 100);
                case CREDIT:
                    return readTwo(0, MAX_NUMBER, 0, 100);
                default:
                    return readOne(0, 400);
            }
        }

        private int readTwo(int low, int high, int secondLow, int secondHigh) {
            int error = readOne(low, high);
            if (error != FINE) {
                return error;
            }
            int kept = first;
            error = readOne(secondLow, secondHigh);
            second = first;
            first = kept;
            return error;
        }

        private int readOne(int low, int high) {
            if (tokens.kind != NUMBER) {
                return BAD_TOKEN;
            }
            if (tokens.value < low || tokens.value > high) {
                return OUT_OF_RANGE;
            }
            first = tokens.value;
            tokens.next();
            return FINE;
        }

        private void keep(int statement) {
            seen |= 1 << statement;
            switch (statement) {
                case MEMBER:
                    ledger.addMember(first);
                    break;
                case VERSION:
                    terms.addVersion(first, second);
                    break;
                case PATENT:
                    ledger.addPatent(first, second);
                    break;
                case LICENSEE:
                    terms.addLicensee(first);
                    break;
                case WEIGHT:
                    break;
                default:
                    keepRule(statement);
                    break;
            }
        }

        private void keepRule(int statement) {
            switch (statement) {
                case QUORUM:
                    terms.quorumVotes = first;
                    terms.quorumPercent = second;
                    break;
                case CAP:
                    terms.cap = first;
                    break;
                case COSTS:
                    terms.costs = first;
                    break;
                case RESERVE:
                    terms.reserve = first;
                    break;
                case LATE:
                    terms.lateDays = first;
                    terms.latePercent = second;
                    break;
                case CREDIT:
                    terms.creditAmount = first;
                    terms.creditPercent = second;
                    break;
                default:
                    terms.penalty = first;
                    break;
            }
        }

        private int readSum(int brackets) {
            int error = readTerm(brackets);
            for (int count = 0; count < MAX_TEXT && error == FINE
                    && (tokens.isSign('+') || tokens.isSign('-')); count++) {
                int code = tokens.isSign('+') ? ADD_CODE : SUBTRACT_CODE;
                tokens.next();
                error = readTerm(brackets);
                terms.formula.add(code);
            }
            return error;
        }

        private int readTerm(int brackets) {
            int error = readFactor(brackets);
            for (int count = 0; count < MAX_TEXT && error == FINE
                    && (tokens.isSign('*') || tokens.isSign('/')); count++) {
                int code = tokens.isSign('*') ? MULTIPLY_CODE : DIVIDE_CODE;
                tokens.next();
                error = readFactor(brackets);
                terms.formula.add(code);
            }
            return error;
        }

        private int readFactor(int brackets) {
            if (tokens.isSign('(')) {
                if (brackets >= MAX_OPEN_BRACKETS) {
                    return BEYOND_LIMIT;
                }
                tokens.next();
                int error = readSum(brackets + 1);
                if (error != FINE) {
                    return error;
                }
                if (!tokens.isSign(')')) {
                    return BAD_TOKEN;
                }
            } else if (tokens.kind == NUMBER) {
                terms.formula.add(tokens.value);
            } else if (tokens.isWord("patents")) {
                terms.formula.add(PATENTS_CODE);
            } else if (tokens.isWord("pairs")) {
                terms.formula.add(PAIRS_CODE);
            } else if (tokens.isWord("days")) {
                terms.formula.add(DAYS_CODE);
            } else {
                return BAD_TOKEN;
            }
            tokens.next();
            return FINE;
        }
    }
}
