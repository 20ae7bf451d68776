import java.util.ArrayDeque;
import java.util.ArrayList;
import java.util.Comparator;
import java.util.Deque;
import java.util.HashSet;
import java.util.List;
import java.util.Set;
import java.util.TreeMap;
import java.util.regex.Matcher;
import java.util.regex.Pattern;

/** The document once more, written as literally as the Java library allows, to compare QuotaOverlay with. */
final class Model {
    static final int NONE = -1;

    record Entry(int identity, int origin) {
    }

    static final class Member {
        int identity;
        int origin;
        int admitted;
        final List<List<Entry>> buckets = new ArrayList<>();

        Member() {
            for (int k = 0; k < 8; k++) {
                buckets.add(new ArrayList<>());
            }
        }

        Member copy() {
            Member m = new Member();
            m.identity = identity;
            m.origin = origin;
            m.admitted = admitted;
            for (int k = 0; k < 8; k++) {
                m.buckets.get(k).addAll(buckets.get(k));
            }
            return m;
        }

        List<Entry> all() {
            List<Entry> all = new ArrayList<>();
            buckets.forEach(all::addAll);
            return all;
        }

        List<Entry> bucketFor(int other) {
            for (int k = 0; k < 8; k++) {
                boolean agree = (identity >> (8 - k)) == (other >> (8 - k));
                boolean differ = (identity >> (7 - k)) != (other >> (7 - k));
                if (agree && differ) {
                    return buckets.get(k);
                }
            }
            throw new AssertionError("own identity");
        }

        List<Integer> nearest(int target) {
            return all().stream().map(Entry::identity)
                    .sorted(Comparator.comparingInt(i -> i ^ target)).limit(3).toList();
        }
    }

    static final class State {
        int base = 2;
        int life = 100;
        int epochLength = 20;
        int bucketQuota = 2;
        int tableQuota = 8;
        int time;
        int admissions;
        final TreeMap<Integer, Member> members = new TreeMap<>();
        long[] counts = new long[9];

        State copy() {
            State s = new State();
            s.base = base;
            s.life = life;
            s.epochLength = epochLength;
            s.bucketQuota = bucketQuota;
            s.tableQuota = tableQuota;
            s.time = time;
            s.admissions = admissions;
            members.forEach((i, m) -> s.members.put(i, m.copy()));
            s.counts = counts.clone();
            return s;
        }
    }

    State s = new State();
    final Deque<State> stack = new ArrayDeque<>();
    String script = "";
    /** What the last lookup did: result, steps, dead contacts, hit. */
    final int[] last = new int[4];

    static void range(long value, long low, long high) {
        if (value < low || value > high) {
            throw new IllegalArgumentException();
        }
    }

    void save(State before) {
        stack.push(before);
        if (stack.size() > 3) {
            stack.removeLast();
        }
    }

    int epoch() {
        return s.time / s.epochLength;
    }

    int difficulty() {
        return Math.min(12, s.base + s.admissions / 4);
    }

    int setPuzzles(int base, int life, int epoch) {
        range(base, 0, 6);
        range(life, 10, 1000);
        range(epoch, 5, 100);
        save(s.copy());
        int previous = s.base;
        int before = epoch();
        s.base = base;
        s.life = life;
        s.epochLength = epoch;
        if (epoch() != before) {
            s.admissions = 0;
        }
        return previous;
    }

    int setQuotas(int bucket, int table) {
        range(bucket, 1, 4);
        range(table, 1, 32);
        save(s.copy());
        int previous = 10 * s.tableQuota + s.bucketQuota;
        s.bucketQuota = bucket;
        s.tableQuota = table;
        return previous;
    }

    int tick(int ticks) {
        State before = s.copy();
        int answer = doTick(ticks);
        save(before);
        return answer;
    }

    int doTick(int ticks) {
        range(ticks, 1, 500);
        int before = epoch();
        s.time += ticks;
        if (epoch() != before) {
            s.admissions = 0;
        }
        int size = s.members.size();
        s.members.values().removeIf(m -> m.admitted + s.life <= s.time);
        int ended = size - s.members.size();
        s.counts[1] += ended;
        return ended;
    }

    static int zeros(int identity, int nonce, int epoch) {
        range(identity, 0, 255);
        range(nonce, 0, 99999);
        range(epoch, 0, Integer.MAX_VALUE);
        long mask = 0xFFFFFFFFL;
        long h = (identity * 2654435761L + nonce * 40503L + epoch * 69069L) & mask;
        h = h ^ (h >> 15);
        h = (h * 2246822519L) & mask;
        h = h ^ (h >> 13);
        int zeros = 0;
        while (zeros < 32 && (h & (1L << (31 - zeros))) == 0) {
            zeros++;
        }
        return zeros;
    }

    int solve(int identity) {
        range(identity, 0, 255);
        for (int nonce = 0; nonce <= 99999; nonce++) {
            if (zeros(identity, nonce, epoch()) >= difficulty()) {
                return nonce;
            }
        }
        return NONE;
    }

    int join(int identity, int origin, int nonce, int sponsor) {
        State before = s.copy();
        range(nonce, 0, 99999);
        int answer = doJoin(identity, origin, nonce, sponsor);
        save(before);
        return answer;
    }

    /** With the nonce NONE: that of solve(). */
    int doJoin(int identity, int origin, int givenNonce, int sponsor) {
        range(identity, 0, 255);
        range(origin, 0, 7);
        range(sponsor, -1, 255);
        if (s.members.containsKey(identity) || s.members.size() == 24) {
            throw new IllegalStateException();
        }
        int nonce = givenNonce == NONE ? solve(identity) : givenNonce;
        if (nonce == NONE || zeros(identity, nonce, epoch()) < difficulty()) {
            throw new UnsupportedOperationException();
        }
        if (s.members.isEmpty() ? sponsor != NONE : !s.members.containsKey(sponsor)) {
            throw new UnsupportedOperationException();
        }
        Member m = new Member();
        m.identity = identity;
        m.origin = origin;
        m.admitted = s.time;
        s.members.put(identity, m);
        s.admissions++;
        s.counts[0]++;
        if (sponsor != NONE) {
            learn(s.members.get(sponsor), m);
            learn(m, s.members.get(sponsor));
            doLookup(identity, identity);
        }
        return m.all().size();
    }

    int admit(int identity, int origin, int sponsor) {
        State before = s.copy();
        int answer = doJoin(identity, origin, NONE, sponsor);
        save(before);
        return answer;
    }

    int leave(int identity) {
        State before = s.copy();
        int answer = doLeave(identity);
        save(before);
        return answer;
    }

    int doLeave(int identity) {
        requireMember(identity);
        s.members.remove(identity);
        s.counts[1]++;
        return s.members.size();
    }

    void requireMember(int identity) {
        range(identity, 0, 255);
        if (!s.members.containsKey(identity)) {
            throw new IllegalStateException();
        }
    }

    int swarm(int first, int step, int many, int origin, int sponsor) {
        range(first, 0, 255);
        range(step, 1, 255);
        range(many, 1, 16);
        range(origin, 0, 7);
        requireMember(sponsor);
        State before = s.copy();
        int joined = 0;
        for (int i = 0; i < many; i++) {
            try {
                doJoin((first + i * step) % 256, origin, NONE, sponsor);
                joined++;
            } catch (IllegalStateException | UnsupportedOperationException e) {
                continue;
            }
        }
        save(before);
        return joined;
    }

    void learn(Member a, Member b) {
        List<Entry> bucket = a.bucketFor(b.identity);
        Entry fresh = new Entry(b.identity, b.origin);
        if (bucket.removeIf(e -> e.identity() == b.identity)) {
            bucket.add(fresh);
        } else if (bucket.stream().filter(e -> e.origin() == b.origin).count() >= s.bucketQuota) {
            s.counts[5]++;
        } else if (a.all().stream().filter(e -> e.origin() == b.origin).count() >= s.tableQuota) {
            s.counts[6]++;
        } else if (bucket.size() == 4 && s.members.containsKey(bucket.get(0).identity())) {
            s.counts[7]++;
            bucket.add(bucket.remove(0));
        } else {
            if (bucket.size() == 4) {
                bucket.remove(0);
            }
            bucket.add(fresh);
        }
    }

    int lookup(int from, int target) {
        range(target, 0, 255);
        requireMember(from);
        State before = s.copy();
        doLookup(from, target);
        save(before);
        return last[0];
    }

    void doLookup(int from, int target) {
        Comparator<Integer> byDistance = Comparator.comparingInt(i -> i ^ target);
        Member a = s.members.get(from);
        Set<Integer> known = new HashSet<>(a.nearest(target));
        Set<Integer> contacted = new HashSet<>();
        Set<Integer> dead = new HashSet<>();
        int steps = 0;
        int result = from;
        while (steps < 12) {
            Integer c = known.stream().sorted(byDistance).limit(3)
                    .filter(i -> !contacted.contains(i)).min(byDistance).orElse(null);
            if (c == null) {
                break;
            }
            steps++;
            contacted.add(c);
            Member m = s.members.get(c);
            if (m == null) {
                dead.add(c);
                known.remove(c);
                a.bucketFor(c).removeIf(e -> e.identity() == c);
                continue;
            }
            known.addAll(m.nearest(target));
            known.remove(from);
            known.removeAll(dead);
            learn(m, a);
            learn(a, m);
            if ((c ^ target) < (result ^ target)) {
                result = c;
            }
        }
        int best = s.members.keySet().stream().min(byDistance).orElseThrow();
        last[0] = result;
        last[1] = steps;
        last[2] = dead.size();
        last[3] = best == result ? 1 : 0;
        s.counts[2]++;
        s.counts[3] += last[1];
        s.counts[4] += last[2];
        s.counts[8] += last[3];
    }

    int probe(int from, int target, int what) {
        range(target, 0, 255);
        range(what, 0, 3);
        requireMember(from);
        State before = s.copy();
        doLookup(from, target);
        s = before;
        return last[what];
    }

    int reach(int identity) {
        requireMember(identity);
        int hits = 0;
        for (int target = 0; target < 256; target++) {
            hits += probe(identity, target, 3);
        }
        return hits;
    }

    int member(int identity, int what) {
        range(identity, 0, 255);
        range(what, 0, 4);
        Member m = s.members.get(identity);
        if (m == null) {
            return what == 0 ? 0 : NONE;
        }
        return switch (what) {
            case 0 -> 1;
            case 1 -> m.origin;
            case 2 -> m.admitted;
            case 3 -> m.all().size();
            default -> (int) s.members.values().stream()
                    .filter(o -> o.all().stream().anyMatch(e -> e.identity() == identity)).count();
        };
    }

    int memberAt(int index) {
        range(index, 0, Integer.MAX_VALUE);
        List<Integer> order = new ArrayList<>(s.members.keySet());
        return index < order.size() ? order.get(index) : NONE;
    }

    int entry(int identity, int bucket, int index, int what) {
        range(bucket, 0, 7);
        range(index, 0, Integer.MAX_VALUE);
        range(what, 0, 1);
        requireMember(identity);
        List<Entry> entries = s.members.get(identity).buckets.get(bucket);
        if (index >= entries.size()) {
            return NONE;
        }
        return what == 0 ? entries.get(index).identity() : entries.get(index).origin();
    }

    int share(int identity, int origin) {
        range(origin, 0, 7);
        requireMember(identity);
        List<Entry> all = s.members.get(identity).all();
        int own = (int) all.stream().filter(e -> e.origin() == origin).count();
        return all.isEmpty() ? 0 : 1000 * own / all.size();
    }

    int overlay(int what) {
        range(what, 0, 8);
        int most = 0;
        for (int o = 0; o < 8; o++) {
            int origin = o;
            most = Math.max(most, (int) s.members.values().stream().filter(m -> m.origin == origin).count());
        }
        return new int[] {s.members.size(), s.time, epoch(), difficulty(), s.admissions, s.bucketQuota,
            s.tableQuota, s.life, most}[what];
    }

    int count(int what) {
        range(what, 0, 8);
        return (int) s.counts[what];
    }

    int type(int value) {
        range(value, 0, 127);
        if (script.length() == 120) {
            throw new IllegalStateException();
        }
        script += (char) value;
        return script.length();
    }

    int clearScript() {
        int length = script.length();
        script = "";
        return length;
    }

    private static final String NUMBER = " +[0-9]{1,5}";
    private static final String COMMAND = "join" + NUMBER + NUMBER + NUMBER + "|leave" + NUMBER
            + "|look" + NUMBER + NUMBER + "|tick" + NUMBER;
    private static final Pattern SCRIPT = Pattern.compile("( *(" + COMMAND + ") *;)* *");
    private static final Set<String> WORDS = Set.of("join", "leave", "look", "tick");

    /** Prefix by prefix: the fault is where no script goes on, but that of a bad word is where it starts. */
    int fault() {
        for (int end = 1; end <= script.length(); end++) {
            Matcher m = SCRIPT.matcher(script.substring(0, end));
            if (!m.matches() && !m.hitEnd()) {
                return badWordOr(end - 1);
            }
        }
        return SCRIPT.matcher(script).matches() ? NONE : badWordOr(script.length());
    }

    private int badWordOr(int index) {
        int start = index;
        while (start > 0 && Character.isLowerCase(script.charAt(start - 1))) {
            start--;
        }
        int end = index;
        while (end < script.length() && Character.isLowerCase(script.charAt(end))) {
            end++;
        }
        boolean wordMayStand = start == 0
                || script.substring(0, start).matches(" *") || script.substring(0, start).matches("(?s).*; *");
        boolean badWord = start < end && wordMayStand && !WORDS.contains(script.substring(start, end));
        return badWord ? start : index;
    }

    int run() {
        int fault = fault();
        if (fault != NONE) {
            return -10 - fault;
        }
        save(s.copy());
        int done = 0;
        for (String command : script.split(";")) {
            String[] parts = command.trim().split(" +");
            if (parts[0].isEmpty()) {
                continue;
            }
            int[] n = new int[3];
            for (int i = 1; i < parts.length; i++) {
                n[i - 1] = Integer.parseInt(parts[i]);
            }
            try {
                obey(parts[0], n);
            } catch (IllegalArgumentException | IllegalStateException | UnsupportedOperationException e) {
                return done;
            }
            done++;
        }
        return done;
    }

    private void obey(String word, int[] n) {
        switch (word) {
            case "join" -> doJoin(n[0], n[1], NONE, s.members.isEmpty() ? NONE : n[2]);
            case "leave" -> doLeave(n[0]);
            case "look" -> {
                range(n[1], 0, 255);
                requireMember(n[0]);
                doLookup(n[0], n[1]);
            }
            default -> doTick(n[0]);
        }
    }

    int undo() {
        if (stack.isEmpty()) {
            throw new IllegalStateException();
        }
        s = stack.pop();
        return stack.size();
    }

    long digest() {
        List<Long> values = new ArrayList<>();
        values.add((long) stack.size());
        values.add((long) script.length());
        for (int what = 0; what < 9; what++) {
            values.add((long) overlay(what));
        }
        for (int what = 0; what < 9; what++) {
            values.add((long) count(what));
        }
        for (Member m : s.members.values()) {
            values.add((long) m.identity);
            for (int what = 1; what <= 4; what++) {
                values.add((long) member(m.identity, what));
            }
            for (List<Entry> bucket : m.buckets) {
                values.add((long) bucket.size());
                for (Entry e : bucket) {
                    values.add((long) e.identity());
                    values.add((long) e.origin());
                }
            }
        }
        long h = 18554;
        for (long v : values) {
            h = 31 * h + v;
        }
        return h;
    }
}
