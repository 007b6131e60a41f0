import java.math.BigInteger;
import java.util.ArrayDeque;
import java.util.ArrayList;
import java.util.Comparator;
import java.util.Deque;
import java.util.HashMap;
import java.util.HashSet;
import java.util.List;
import java.util.Map;
import java.util.Set;
import java.util.regex.Matcher;
import java.util.regex.Pattern;

/**
 * The document once more, written for plainness with all of the Java library, so that random runs can
 * compare the class with it. It shares no code and no way of computing with the class.
 */
public final class PoolModel {
    private static final Pattern TOKEN = Pattern.compile("[a-z]+|[0-9]+|[^ \n]");
    private static final BigInteger HUNDRED = BigInteger.valueOf(100);

    private static final class Fault extends RuntimeException {
        private static final long serialVersionUID = 1L;
        final int code;
        final int position;

        Fault(int code, int position) {
            this.code = code;
            this.position = position;
        }
    }

    private record Token(String text, int position) {
    }

    private record Patent(int member, int expiry) {
    }

    private record Version(int day, int price) {
    }

    private record Vote(int reviewer, int patent, int version) {
    }

    private record Pair(int licensee, int version) {
    }

    private interface Sum {
        int value(Map<String, Integer> values);
    }

    private static final class State {
        int day;
        int period;
        List<Integer> joined = new ArrayList<>();
        List<Patent> patents = new ArrayList<>();
        Map<Vote, Boolean> votes = new HashMap<>();
        Map<Pair, Integer> units = new HashMap<>();
        Map<Integer, BigInteger> owed = new HashMap<>();
        Set<Integer> credited = new HashSet<>();
        Map<Integer, BigInteger> accounts = new HashMap<>();
        Map<Integer, BigInteger> latest = new HashMap<>();
        BigInteger[] totals = {BigInteger.ZERO, BigInteger.ZERO, BigInteger.ZERO, BigInteger.ZERO, BigInteger.ZERO};

        State copy() {
            State copy = new State();
            copy.day = day;
            copy.period = period;
            copy.joined = new ArrayList<>(joined);
            copy.patents = new ArrayList<>(patents);
            copy.votes = new HashMap<>(votes);
            copy.units = new HashMap<>(units);
            copy.owed = new HashMap<>(owed);
            copy.credited = new HashSet<>(credited);
            copy.accounts = new HashMap<>(accounts);
            copy.latest = new HashMap<>(latest);
            copy.totals = totals.clone();
            return copy;
        }
    }

    private static final class Rules {
        List<Version> versions = new ArrayList<>();
        List<Integer> discounts = new ArrayList<>();
        Map<String, int[]> once = new HashMap<>(Map.of("quorum", new int[] {3, 50}, "cap", new int[] {100},
                "costs", new int[] {10}, "reserve", new int[] {5}, "late", new int[] {0, 100},
                "credit", new int[] {1000, 20}, "penalty", new int[] {50}));
        Sum weight = values -> values.get("patents");
    }

    private String buffer = "";
    private int errorPosition = -1;
    private Rules rules = new Rules();
    private State state = new State();
    private final Deque<State> history = new ArrayDeque<>();
    private final State[] slots = new State[2];

    // ---- the text

    private static final class Reading {
        final List<Token> tokens = new ArrayList<>();
        final int length;
        int at = 0;
        final Rules rules = new Rules();
        final State state = new State();
        final Set<String> seen = new HashSet<>();

        Reading(String text) {
            length = text.length();
            Matcher matcher = TOKEN.matcher(text);
            while (matcher.find()) {
                tokens.add(new Token(matcher.group(), matcher.start()));
            }
        }

        boolean more() {
            return at < tokens.size();
        }

        String peek() {
            return more() ? tokens.get(at).text : "";
        }

        Fault fault(int code) {
            return new Fault(code, more() ? tokens.get(at).position : length);
        }

        void expect(String text) {
            if (!peek().equals(text)) {
                throw fault(1);
            }
            at++;
        }

        int number(int low, int high) {
            if (!peek().matches("[0-9]{1,4}")) {
                throw fault(1);
            }
            int value = Integer.parseInt(peek());
            if (value < low || value > high) {
                throw fault(3);
            }
            at++;
            return value;
        }

        void limit(List<?> list, int most) {
            if (list.size() == most) {
                throw fault(4);
            }
            at++;
        }

        void pool() {
            while (more()) {
                statement();
                expect(";");
            }
        }

        void statement() {
            String word = peek();
            switch (word) {
                case "member" -> {
                    limit(state.joined, 8);
                    state.joined.add(number(0, 9999));
                }
                case "version" -> {
                    limit(rules.versions, 4);
                    rules.versions.add(new Version(number(0, 9999), number(1, 9999)));
                }
                case "patent" -> {
                    limit(state.patents, 16);
                    state.patents.add(new Patent(number(0, state.joined.size() - 1), number(1, 9999)));
                }
                case "licensee" -> {
                    limit(rules.discounts, 6);
                    rules.discounts.add(number(0, 100));
                }
                case "quorum" -> once(word, 1, 5, 1, 100);
                case "cap" -> once(word, 1, 100);
                case "costs" -> once(word, 0, 50);
                case "reserve" -> once(word, 0, 40);
                case "late", "credit" -> once(word, 0, 9999, 0, 100);
                case "penalty" -> once(word, 0, 400);
                case "weight" -> {
                    once(word);
                    rules.weight = sum(0);
                }
                default -> throw fault(1);
            }
        }

        void once(String word, int... ranges) {
            if (!seen.add(word)) {
                throw fault(2);
            }
            at++;
            int[] numbers = new int[ranges.length / 2];
            for (int i = 0; i < numbers.length; i++) {
                numbers[i] = number(ranges[2 * i], ranges[2 * i + 1]);
            }
            rules.once.put(word, numbers);
        }

        Sum sum(int open) {
            Sum left = term(open);
            while (peek().equals("+") || peek().equals("-")) {
                boolean plus = peek().equals("+");
                at++;
                Sum first = left;
                Sum second = term(open);
                left = values -> plus ? first.value(values) + second.value(values)
                        : first.value(values) - second.value(values);
            }
            return left;
        }

        Sum term(int open) {
            Sum left = factor(open);
            while (peek().equals("*") || peek().equals("/")) {
                boolean times = peek().equals("*");
                at++;
                Sum first = left;
                Sum second = factor(open);
                left = values -> {
                    int a = first.value(values);
                    int b = second.value(values);
                    return times ? a * b : b == 0 ? 0 : a / b;
                };
            }
            return left;
        }

        Sum factor(int open) {
            String word = peek();
            if (word.equals("patents") || word.equals("pairs") || word.equals("days")) {
                at++;
                return values -> values.get(word);
            }
            if (word.equals("(")) {
                if (open == 5) {
                    throw fault(4);
                }
                at++;
                Sum inner = sum(open + 1);
                expect(")");
                return inner;
            }
            int value = number(0, 9999);
            return values -> value;
        }
    }

    public int append(int a, int b, int c, int d, int e) {
        if (buffer.length() > 680) {
            return -1;
        }
        StringBuilder more = new StringBuilder(buffer);
        for (int word : new int[] {a, b, c, d, e}) {
            for (int part = 3; part >= 0; part--) {
                more.append((char) (word >> 8 * part & 255));
            }
        }
        buffer = more.toString();
        return buffer.length();
    }

    public int parse(int length) {
        argument(length >= 0 && length <= buffer.length());
        Reading reading = new Reading(buffer.substring(0, length));
        buffer = "";
        try {
            reading.pool();
        } catch (Fault fault) {
            errorPosition = fault.position;
            return fault.code;
        }
        errorPosition = -1;
        rules = reading.rules;
        state = reading.state;
        history.clear();
        slots[0] = null;
        slots[1] = null;
        return 0;
    }

    public int errorPosition() {
        return errorPosition;
    }

    // ---- what is checked

    private static void argument(boolean fine) {
        if (!fine) {
            throw new IllegalArgumentException();
        }
    }

    private static void state(boolean fine) {
        if (!fine) {
            throw new IllegalStateException();
        }
    }

    private static void index(int number, int size) {
        if (number < 0 || number >= size) {
            throw new IndexOutOfBoundsException();
        }
    }

    private void member(int number) {
        index(number, state.joined.size());
    }

    private void version(int number) {
        index(number, rules.versions.size());
    }

    private void patent(int number) {
        index(number, state.patents.size());
    }

    private void licensee(int number) {
        index(number, rules.discounts.size());
    }

    private int rule(String word, int at) {
        return rules.once.get(word)[at];
    }

    // ---- what can be asked

    public int size(int what) {
        argument(what >= 0 && what <= 3);
        return List.of(state.joined.size(), rules.versions.size(), state.patents.size(), rules.discounts.size())
                .get(what);
    }

    public int today() {
        return state.day;
    }

    public int period() {
        return state.period;
    }

    private int decided(int yes, int votes) {
        if (votes < rule("quorum", 0)) {
            return 0;
        }
        return yes * 100 >= rule("quorum", 1) * votes ? 1 : 2;
    }

    public int decision(int patent, int version) {
        int yes = Integer.bitCount(voters(patent, version, true));
        return decided(yes, yes + Integer.bitCount(voters(patent, version, false)));
    }

    public int voters(int patent, int version, boolean yes) {
        patent(patent);
        version(version);
        int set = 0;
        for (int reviewer = 0; reviewer < 5; reviewer++) {
            Boolean vote = state.votes.get(new Vote(reviewer, patent, version));
            if (vote != null && vote == yes) {
                set += 1 << reviewer;
            }
        }
        return set;
    }

    public int votesNeeded(int patent, int version) {
        int yes = Integer.bitCount(voters(patent, version, true));
        int no = Integer.bitCount(voters(patent, version, false));
        for (int all = yes + no; all <= 5; all++) {
            if (decided(all - no, all) == 1) {
                return all - no - yes;
            }
        }
        return -1;
    }

    public boolean counts(int patent, int version) {
        patent(patent);
        version(version);
        return countsOn(patent, version, state.day);
    }

    private boolean countsOn(int patent, int version, int day) {
        Patent one = state.patents.get(patent);
        return decision(patent, version) == 1 && rules.versions.get(version).day <= day && one.expiry > day
                && state.joined.get(one.member) <= day;
    }

    public int firstToExpire(int member) {
        member(member);
        int best = -1;
        for (int patent = state.patents.size() - 1; patent >= 0; patent--) {
            Patent one = state.patents.get(patent);
            if (one.member == member && one.expiry > state.day
                    && (best < 0 || one.expiry <= state.patents.get(best).expiry)) {
                best = patent;
            }
        }
        return best;
    }

    public int weight(int member) {
        return weightAfter(member, 0);
    }

    public int weightAfter(int member, int later) {
        member(member);
        argument(later >= 0 && later <= 9999);
        int day = state.day + later;
        if (state.joined.get(member) > day) {
            return 0;
        }
        Set<Integer> patents = new HashSet<>();
        Set<List<Integer>> pairs = new HashSet<>();
        for (int patent = 0; patent < state.patents.size(); patent++) {
            for (int version = 0; version < rules.versions.size(); version++) {
                if (state.patents.get(patent).member == member && countsOn(patent, version, day)) {
                    patents.add(patent);
                    pairs.add(List.of(patent, version));
                }
            }
        }
        int days = day - state.joined.get(member);
        int value = rules.weight.value(Map.of("patents", patents.size(), "pairs", pairs.size(), "days", days));
        value = value < 0 ? 0 : value > 1000000 ? 1000000 : value;
        return days < rule("late", 0) ? value * rule("late", 1) / 100 : value;
    }

    private List<BigInteger> weights() {
        List<BigInteger> weights = new ArrayList<>();
        for (int member = 0; member < state.joined.size(); member++) {
            weights.add(BigInteger.valueOf(weight(member)));
        }
        return weights;
    }

    /** Shares by member; what goes to the reserve is the last element. */
    private List<BigInteger> shared(BigInteger amount) {
        List<BigInteger> weights = weights();
        BigInteger limit = amount.multiply(BigInteger.valueOf(rule("cap", 0))).divide(HUNDRED);
        BigInteger rest = amount;
        Map<Integer, BigInteger> shares = new HashMap<>();
        List<Integer> open = new ArrayList<>();
        for (int member = 0; member < weights.size(); member++) {
            if (weights.get(member).signum() > 0) {
                open.add(member);
            }
        }
        while (!open.isEmpty()) {
            BigInteger sum = open.stream().map(weights::get).reduce(BigInteger.ZERO, BigInteger::add);
            BigInteger now = rest;
            Map<Integer, BigInteger[]> quotas = new HashMap<>();
            for (int member : open) {
                quotas.put(member, now.multiply(weights.get(member)).divideAndRemainder(sum));
            }
            List<Integer> above = open.stream().filter(m -> quotas.get(m)[0].compareTo(limit) > 0).toList();
            if (!above.isEmpty()) {
                above.forEach(member -> shares.put(member, limit));
                rest = rest.subtract(limit.multiply(BigInteger.valueOf(above.size())));
                open.removeAll(above);
                continue;
            }
            for (int member : open) {
                shares.put(member, quotas.get(member)[0]);
                rest = rest.subtract(quotas.get(member)[0]);
            }
            List<Integer> order = new ArrayList<>(open);
            order.sort(Comparator.comparing((Integer m) -> quotas.get(m)[1]).reversed());
            for (int member : order) {
                if (rest.signum() > 0 && shares.get(member).compareTo(limit) < 0) {
                    shares.merge(member, BigInteger.ONE, BigInteger::add);
                    rest = rest.subtract(BigInteger.ONE);
                }
            }
            break;
        }
        List<BigInteger> result = new ArrayList<>();
        for (int member = 0; member < weights.size(); member++) {
            result.add(shares.getOrDefault(member, BigInteger.ZERO));
        }
        result.add(rest);
        return result;
    }

    public int shareOf(int member, int amount) {
        member(member);
        argument(amount >= 0 && amount <= 1000000000);
        return shared(BigInteger.valueOf(amount)).get(member).intValueExact();
    }

    private boolean majority(int set) {
        long sum = 0;
        long all = 0;
        List<BigInteger> weights = weights();
        for (int member = 0; member < weights.size(); member++) {
            all += weights.get(member).longValueExact();
            sum += (set & 1 << member) != 0 ? weights.get(member).longValueExact() : 0;
        }
        return 2 * sum > all;
    }

    public int smallestMajority() {
        for (int number = 1; number <= state.joined.size(); number++) {
            for (int set = 0; set < 1 << state.joined.size(); set++) {
                if (Integer.bitCount(set) == number && majority(set)) {
                    return set;
                }
            }
        }
        return -1;
    }

    public int power(int member) {
        member(member);
        int number = 0;
        for (int set = 0; set < 1 << state.joined.size(); set++) {
            boolean others = (set & 1 << member) == 0;
            number += others && !majority(set) && majority(set + (1 << member)) ? 1 : 0;
        }
        return number;
    }

    public long owed(int licensee) {
        licensee(licensee);
        return state.owed.getOrDefault(licensee, BigInteger.ZERO).longValueExact();
    }

    public int reported(int licensee, int version) {
        licensee(licensee);
        version(version);
        return state.units.getOrDefault(new Pair(licensee, version), 0);
    }

    public long account(int member) {
        member(member);
        return state.accounts.getOrDefault(member, BigInteger.ZERO).longValueExact();
    }

    public long latestShare(int member) {
        member(member);
        return state.latest.getOrDefault(member, BigInteger.ZERO).longValueExact();
    }

    public long total(int what) {
        argument(what >= 0 && what <= 4);
        return state.totals[what].longValueExact();
    }

    public int largestDebtor() {
        int best = -1;
        for (int licensee = rules.discounts.size() - 1; licensee >= 0; licensee--) {
            if (owed(licensee) > 0 && (best < 0 || owed(licensee) >= owed(best))) {
                best = licensee;
            }
        }
        return best;
    }

    // ---- changes

    private void change() {
        history.push(state.copy());
        if (history.size() > 10) {
            history.removeLast();
        }
    }

    private boolean released(int version) {
        return rules.versions.get(version).day <= state.day;
    }

    public int advance(int days) {
        argument(days >= 1 && days <= 9999);
        state(state.day + days <= 9999);
        change();
        return state.day += days;
    }

    public int join() {
        state(state.joined.size() < 8);
        change();
        state.joined.add(state.day);
        return state.joined.size() - 1;
    }

    public int declare(int member, int expiry) {
        member(member);
        argument(expiry > state.day && expiry <= 9999);
        state(state.patents.size() < 16);
        change();
        state.patents.add(new Patent(member, expiry));
        return state.patents.size() - 1;
    }

    public int vote(int reviewer, int patent, int version, boolean yes) {
        index(reviewer, 5);
        patent(patent);
        version(version);
        state(released(version) && state.day < state.patents.get(patent).expiry);
        change();
        state.votes.put(new Vote(reviewer, patent, version), yes);
        return decision(patent, version);
    }

    public int reopen(int patent, int version) {
        int number = Integer.bitCount(voters(patent, version, true) + voters(patent, version, false));
        state(number > 0);
        change();
        state.votes.keySet().removeIf(vote -> vote.patent == patent && vote.version == version);
        return number;
    }

    private BigInteger royalty(int licensee, int version, int units) {
        return BigInteger.valueOf(units).multiply(BigInteger.valueOf(rules.versions.get(version).price))
                .multiply(BigInteger.valueOf(100 - rules.discounts.get(licensee))).divide(HUNDRED);
    }

    public int report(int licensee, int version, int units) {
        licensee(licensee);
        version(version);
        argument(units >= 1 && units <= 9999);
        state(released(version));
        change();
        BigInteger royalty = royalty(licensee, version, units);
        state.owed.merge(licensee, royalty, BigInteger::add);
        state.units.merge(new Pair(licensee, version), units, Integer::sum);
        return royalty.intValueExact();
    }

    public int grantBack(int licensee) {
        licensee(licensee);
        BigInteger credit = BigInteger.valueOf(owed(licensee)).multiply(BigInteger.valueOf(rule("credit", 1)))
                .divide(HUNDRED).min(BigInteger.valueOf(rule("credit", 0)));
        state(!state.credited.contains(licensee) && credit.signum() != 0);
        change();
        state.credited.add(licensee);
        state.owed.merge(licensee, credit.negate(), BigInteger::add);
        return credit.intValueExact();
    }

    public long pay(int licensee, int amount) {
        licensee(licensee);
        argument(amount >= 1 && amount <= owed(licensee));
        change();
        BigInteger paid = BigInteger.valueOf(amount);
        state.owed.merge(licensee, paid.negate(), BigInteger::add);
        state.totals[0] = state.totals[0].add(paid);
        state.totals[3] = state.totals[3].add(paid);
        return owed(licensee);
    }

    public long audit(int licensee, int version, int units) {
        licensee(licensee);
        version(version);
        argument(units >= 0 && units <= 99999);
        change();
        if (units <= reported(licensee, version)) {
            return 0;
        }
        BigInteger royalty = royalty(licensee, version, units - reported(licensee, version));
        BigInteger more = royalty.add(royalty.multiply(BigInteger.valueOf(rule("penalty", 0))).divide(HUNDRED));
        state.owed.merge(licensee, more, BigInteger::add);
        state.units.put(new Pair(licensee, version), units);
        return more.longValueExact();
    }

    public long close() {
        BigInteger received = state.totals[0];
        state(received.signum() > 0);
        change();
        BigInteger costs = received.multiply(BigInteger.valueOf(rule("costs", 0))).divide(HUNDRED);
        BigInteger reserve = received.multiply(BigInteger.valueOf(rule("reserve", 0))).divide(HUNDRED);
        List<BigInteger> shares = shared(received.subtract(costs).subtract(reserve));
        BigInteger rest = shares.remove(shares.size() - 1);
        state.totals[0] = BigInteger.ZERO;
        state.totals[1] = state.totals[1].add(costs);
        state.totals[2] = state.totals[2].add(reserve).add(rest);
        state.latest.clear();
        BigInteger sum = BigInteger.ZERO;
        for (int member = 0; member < shares.size(); member++) {
            state.latest.put(member, shares.get(member));
            state.accounts.merge(member, shares.get(member), BigInteger::add);
            sum = sum.add(shares.get(member));
        }
        state.units.clear();
        state.credited.clear();
        state.period++;
        return sum.longValueExact();
    }

    public long payOut(int member) {
        long amount = account(member);
        state(amount != 0);
        change();
        state.accounts.remove(member);
        state.totals[4] = state.totals[4].add(BigInteger.valueOf(amount));
        return amount;
    }

    // ---- undo and snapshots

    public int undo() {
        if (history.isEmpty()) {
            return -1;
        }
        state = history.pop();
        return history.size();
    }

    public boolean saveSnapshot(int slot) {
        index(slot, 2);
        boolean earlier = slots[slot] != null;
        slots[slot] = state.copy();
        return earlier;
    }

    public int restoreSnapshot(int slot) {
        index(slot, 2);
        state(slots[slot] != null);
        state = slots[slot].copy();
        history.clear();
        return state.day;
    }
}
