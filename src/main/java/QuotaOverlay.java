import java.util.Arrays;

/** A simulator of an overlay whose members are admitted by puzzles and held down by quotas. */
public final class QuotaOverlay {
    public static final int NONE = -1;

    private static final int LAST_IDENTITY = 255;
    private static final int LAST_ORIGIN = 7;
    private static final int LAST_NONCE = 99999;
    private static final int MAX_MEMBERS = 24;
    private static final int BUCKETS = 8;
    private static final int BUCKET_CAPACITY = 4;
    private static final int MAX_SAVED = 3;

    private static final int COUNT_KINDS = 9;
    private static final int ADMISSIONS = 0;
    private static final int ENDED = 1;
    private static final int LOOKUPS = 2;
    private static final int STEPS = 3;
    private static final int DEAD_CONTACTS = 4;
    private static final int BUCKET_QUOTA = 5;
    private static final int TABLE_QUOTA = 6;
    private static final int FULL_BUCKET = 7;
    private static final int HITS = 8;

    // What is wrong with a call: a script must know it before a command, without an exception.
    private static final int FINE = 0;
    private static final int BAD_ARGUMENT = 1;
    private static final int BAD_STATE = 2;
    private static final int UNSUPPORTED = 3;

    private final Walk walk = new Walk();
    private final Script script = new Script();
    // Four states take turns as the present one and the saved ones, so that no call makes a new one.
    private State now = new State();
    private State latest = new State();
    private State middle = new State();
    private State oldest = new State();
    private int saved = 0;

    public QuotaOverlay() {
    }

    // ---- settings and time

    public int setPuzzles(int base, int life, int epoch) throws IllegalArgumentException {
        refuseOutside(base, 0, 6);
        refuseOutside(life, 10, 1000);
        refuseOutside(epoch, 5, 100);
        save();
        int previous = now.base;
        now.adoptPuzzles(base, life, epoch);
        return previous;
    }

    public int setQuotas(int bucket, int table) throws IllegalArgumentException {
        refuseOutside(bucket, 1, 4);
        refuseOutside(table, 1, 32);
        save();
        int previous = 10 * now.tableQuota + now.bucketQuota;
        now.bucketQuota = bucket;
        now.tableQuota = table;
        return previous;
    }

    public int tick(int ticks) throws IllegalArgumentException {
        raise(tickFault(ticks));
        save();
        return now.passTime(ticks);
    }

    // ---- admission

    public int solve(int identity) throws IllegalArgumentException {
        refuseOutside(identity, 0, LAST_IDENTITY);
        return now.smallestNonce(identity);
    }

    public int zeros(int identity, int nonce, int epoch) throws IllegalArgumentException {
        refuseOutside(identity, 0, LAST_IDENTITY);
        refuseOutside(nonce, 0, LAST_NONCE);
        refuseNegative(epoch);
        return Puzzle.leadingZeros(identity, nonce, epoch);
    }

    public int join(int identity, int origin, int nonce, int sponsor)
            throws IllegalArgumentException, IllegalStateException, UnsupportedOperationException {
        refuseOutside(nonce, 0, LAST_NONCE);
        raise(entryFault(identity, origin, sponsor));
        if (!now.isSolvedBy(identity, nonce)) {
            throw new UnsupportedOperationException("the nonce does not solve the puzzle");
        }
        save();
        return now.enter(walk, identity, origin, sponsor);
    }

    public int admit(int identity, int origin, int sponsor)
            throws IllegalArgumentException, IllegalStateException, UnsupportedOperationException {
        raise(admissionFault(identity, origin, sponsor));
        save();
        return now.enter(walk, identity, origin, sponsor);
    }

    public int leave(int identity) throws IllegalArgumentException, IllegalStateException {
        raise(memberFault(identity));
        save();
        now.endIdentity(identity);
        return now.memberCount;
    }

    public int swarm(int first, int step, int many, int origin, int sponsor)
            throws IllegalArgumentException, IllegalStateException {
        refuseOutside(first, 0, LAST_IDENTITY);
        refuseOutside(step, 1, 255);
        refuseOutside(many, 1, 16);
        refuseOutside(origin, 0, LAST_ORIGIN);
        raise(memberFault(sponsor));
        save();
        int joined = 0;
        for (int i = 0; i < many; i++) {
            int identity = (first + i * step) & LAST_IDENTITY;
            if (admissionFault(identity, origin, sponsor) == FINE) {
                now.enter(walk, identity, origin, sponsor);
                joined++;
            }
        }
        return joined;
    }

    // ---- lookups

    public int lookup(int from, int target) throws IllegalArgumentException, IllegalStateException {
        raise(lookupFault(from, target));
        save();
        return now.makeLookup(walk, from, target);
    }

    public int probe(int from, int target, int what) throws IllegalArgumentException, IllegalStateException {
        refuseOutside(what, 0, 3);
        raise(lookupFault(from, target));
        walk.trace(now, from, target);
        switch (what) {
            case 0: return walk.result;
            case 1: return walk.steps;
            case 2: return walk.deadContacts;
            default: return walk.hit ? 1 : 0;
        }
    }

    public int reach(int identity) throws IllegalArgumentException, IllegalStateException {
        raise(memberFault(identity));
        int hits = 0;
        for (int target = 0; target <= LAST_IDENTITY; target++) {
            walk.trace(now, identity, target);
            if (walk.hit) {
                hits++;
            }
        }
        return hits;
    }

    // ---- values

    public int member(int identity, int what) throws IllegalArgumentException {
        refuseOutside(identity, 0, LAST_IDENTITY);
        refuseOutside(what, 0, 4);
        return memberValue(identity, what);
    }

    public int memberAt(int index) throws IllegalArgumentException {
        refuseNegative(index);
        int rank = 0;
        for (int identity = 0; identity <= LAST_IDENTITY; identity++) {
            if (now.isMember(identity)) {
                if (rank == index) {
                    return identity;
                }
                rank++;
            }
        }
        return NONE;
    }

    public int entry(int identity, int bucket, int index, int what)
            throws IllegalArgumentException, IllegalStateException {
        refuseOutside(bucket, 0, BUCKETS - 1);
        refuseNegative(index);
        refuseOutside(what, 0, 1);
        raise(memberFault(identity));
        int place = Tables.bucketPlace(now.rowOf[identity], bucket);
        if (index >= now.tables.sizes[place]) {
            return NONE;
        }
        int spot = place * BUCKET_CAPACITY + index;
        return what == 0 ? now.tables.identities[spot] : now.tables.origins[spot];
    }

    public int share(int identity, int origin) throws IllegalArgumentException, IllegalStateException {
        refuseOutside(origin, 0, LAST_ORIGIN);
        raise(memberFault(identity));
        int row = now.rowOf[identity];
        int all = now.tables.entriesOf(row);
        if (all == 0) {
            return 0;
        }
        return 1000 * now.tables.entriesOfOrigin(Tables.bucketPlace(row, 0), BUCKETS, origin) / all;
    }

    public int overlay(int what) throws IllegalArgumentException {
        refuseOutside(what, 0, 8);
        return overlayValue(what);
    }

    public int count(int what) throws IllegalArgumentException {
        refuseOutside(what, 0, COUNT_KINDS - 1);
        return now.counts[what];
    }

    // ---- scripts, undo and checksum

    public int type(int value) throws IllegalArgumentException, IllegalStateException {
        refuseOutside(value, 0, 127);
        if (script.length >= Script.CAPACITY) {
            throw new IllegalStateException("the script is full");
        }
        script.bytes[script.length] = value;
        script.length++;
        return script.length;
    }

    public int clearScript() {
        int previous = script.length;
        script.length = 0;
        return previous;
    }

    public int run() {
        int fault = script.parse();
        if (fault != NONE) {
            return -10 - fault;
        }
        save();
        int done = 0;
        while (done < script.commands && carryOut(done)) {
            done++;
        }
        return done;
    }

    public int undo() throws IllegalStateException {
        if (saved == 0) {
            throw new IllegalStateException("no state is saved");
        }
        State discarded = now;
        now = latest;
        latest = middle;
        middle = oldest;
        oldest = discarded;
        saved--;
        return saved;
    }

    public long digest() {
        long hash = 18554;
        hash = 31 * hash + saved;
        hash = 31 * hash + script.length;
        for (int what = 0; what <= 8; what++) {
            hash = 31 * hash + overlayValue(what);
        }
        for (int what = 0; what < COUNT_KINDS; what++) {
            hash = 31 * hash + now.counts[what];
        }
        for (int identity = 0; identity <= LAST_IDENTITY; identity++) {
            if (now.isMember(identity)) {
                hash = 31 * hash + identity;
                for (int what = 1; what <= 4; what++) {
                    hash = 31 * hash + memberValue(identity, what);
                }
                hash = now.tables.hashOf(now.rowOf[identity], hash);
            }
        }
        return hash;
    }

    // ---- what the calls share

    private void save() {
        State reused = oldest;
        oldest = middle;
        middle = latest;
        latest = reused;
        latest.copyFrom(now);
        saved = Math.min(saved + 1, MAX_SAVED);
    }

    private boolean carryOut(int index) {
        int first = script.number(index, 0);
        int second = script.number(index, 1);
        switch (script.words[index]) {
            case Script.JOIN:
                int sponsor = now.memberCount == 0 ? NONE : script.number(index, 2);
                if (admissionFault(first, second, sponsor) != FINE) {
                    return false;
                }
                now.enter(walk, first, second, sponsor);
                return true;
            case Script.LEAVE:
                if (memberFault(first) != FINE) {
                    return false;
                }
                now.endIdentity(first);
                return true;
            case Script.LOOK:
                if (lookupFault(first, second) != FINE) {
                    return false;
                }
                now.makeLookup(walk, first, second);
                return true;
            default:
                if (tickFault(first) != FINE) {
                    return false;
                }
                now.passTime(first);
                return true;
        }
    }

    private int memberValue(int identity, int what) {
        boolean present = now.isMember(identity);
        if (what == 0) {
            return present ? 1 : 0;
        }
        if (!present) {
            return NONE;
        }
        int row = now.rowOf[identity];
        switch (what) {
            case 1: return now.origins[row];
            case 2: return now.admitted[row];
            case 3: return now.tables.entriesOf(row);
            default: return now.tablesWith(identity);
        }
    }

    private int overlayValue(int what) {
        switch (what) {
            case 0: return now.memberCount;
            case 1: return now.time;
            case 2: return now.epoch();
            case 3: return now.difficulty();
            case 4: return now.epochAdmissions;
            case 5: return now.bucketQuota;
            case 6: return now.tableQuota;
            case 7: return now.life;
            default: return now.largestOrigin();
        }
    }

    private static boolean isOutside(int value, int low, int high) {
        return value < low || value > high;
    }

    private static void refuseOutside(int value, int low, int high) {
        if (isOutside(value, low, high)) {
            throw new IllegalArgumentException("an argument is out of range");
        }
    }

    private static void refuseNegative(int value) {
        if (value < 0) {
            throw new IllegalArgumentException("an argument is negative");
        }
    }

    private static void raise(int fault) {
        if (fault == BAD_ARGUMENT) {
            throw new IllegalArgumentException("an argument is out of range");
        }
        if (fault == BAD_STATE) {
            throw new IllegalStateException("the members do not allow this");
        }
        if (fault == UNSUPPORTED) {
            throw new UnsupportedOperationException("the puzzle or the sponsor does not allow this");
        }
    }

    private static int tickFault(int ticks) {
        return isOutside(ticks, 1, 500) ? BAD_ARGUMENT : FINE;
    }

    private int memberFault(int identity) {
        if (isOutside(identity, 0, LAST_IDENTITY)) {
            return BAD_ARGUMENT;
        }
        return now.isMember(identity) ? FINE : BAD_STATE;
    }

    private int lookupFault(int from, int target) {
        if (isOutside(target, 0, LAST_IDENTITY)) {
            return BAD_ARGUMENT;
        }
        return memberFault(from);
    }

    /** All that can stand against an entry but its puzzle, which is dear and so looked at last. */
    private int entryFault(int identity, int origin, int sponsor) {
        if (isOutside(identity, 0, LAST_IDENTITY) || isOutside(origin, 0, LAST_ORIGIN)
                || isOutside(sponsor, NONE, LAST_IDENTITY)) {
            return BAD_ARGUMENT;
        }
        if (now.isMember(identity) || now.memberCount >= MAX_MEMBERS) {
            return BAD_STATE;
        }
        boolean sponsored = now.memberCount == 0 ? sponsor == NONE : now.isMember(sponsor);
        return sponsored ? FINE : UNSUPPORTED;
    }

    private int admissionFault(int identity, int origin, int sponsor) {
        int fault = entryFault(identity, origin, sponsor);
        if (fault == FINE && now.smallestNonce(identity) == NONE) {
            return UNSUPPORTED;
        }
        return fault;
    }

    private static final class Puzzle {
        static final int NONCE_FACTOR = 40503;

        /** The part of the sum that stays the same for all nonces. */
        static int sumWithoutNonce(int identity, int epoch) {
            return identity * (int) 2654435761L + epoch * 69069;
        }

        static int mix(int sum) {
            int h = sum ^ (sum >>> 15);
            h *= (int) 2246822519L;
            return h ^ (h >>> 13);
        }

        static int leadingZeros(int identity, int nonce, int epoch) {
            return Integer.numberOfLeadingZeros(mix(sumWithoutNonce(identity, epoch) + nonce * NONCE_FACTOR));
        }
    }

    /** All that undo brings back. A member's values and table stand in a row that it keeps while it is one. */
    private static final class State {
        private static final int MAX_DIFFICULTY = 12;

        int base = 2;
        int life = 100;
        int epochLength = 20;
        int bucketQuota = 2;
        int tableQuota = 8;
        int time = 0;
        int epochAdmissions = 0;
        int memberCount = 0;
        final int[] counts = new int[COUNT_KINDS];
        final int[] rowOf = new int[LAST_IDENTITY + 1];
        final int[] owners = new int[MAX_MEMBERS];
        final int[] origins = new int[MAX_MEMBERS];
        final int[] admitted = new int[MAX_MEMBERS];
        final Tables tables = new Tables();

        State() {
            Arrays.fill(rowOf, NONE);
            Arrays.fill(owners, NONE);
        }

        void copyFrom(State other) {
            base = other.base;
            life = other.life;
            epochLength = other.epochLength;
            bucketQuota = other.bucketQuota;
            tableQuota = other.tableQuota;
            time = other.time;
            epochAdmissions = other.epochAdmissions;
            memberCount = other.memberCount;
            System.arraycopy(other.counts, 0, counts, 0, COUNT_KINDS);
            System.arraycopy(other.rowOf, 0, rowOf, 0, LAST_IDENTITY + 1);
            System.arraycopy(other.owners, 0, owners, 0, MAX_MEMBERS);
            System.arraycopy(other.origins, 0, origins, 0, MAX_MEMBERS);
            System.arraycopy(other.admitted, 0, admitted, 0, MAX_MEMBERS);
            tables.copyFrom(other.tables);
        }

        boolean isMember(int identity) {
            return identity >= 0 && identity <= LAST_IDENTITY && rowOf[identity] != NONE;
        }

        int epoch() {
            return epochLength > 0 ? Math.floorDiv(time, epochLength) : 0;
        }

        int difficulty() {
            return Math.min(base + epochAdmissions / 4, MAX_DIFFICULTY);
        }

        boolean isSolvedBy(int identity, int nonce) {
            return Puzzle.leadingZeros(identity, nonce, epoch()) >= difficulty();
        }

        int smallestNonce(int identity) {
            int sum = Puzzle.sumWithoutNonce(identity, epoch());
            int needed = difficulty();
            for (int nonce = 0; nonce <= LAST_NONCE; nonce++) {
                if (Integer.numberOfLeadingZeros(Puzzle.mix(sum)) >= needed) {
                    return nonce;
                }
                sum += Puzzle.NONCE_FACTOR;
            }
            return NONE;
        }

        void adoptPuzzles(int newBase, int newLife, int newEpochLength) {
            int before = epoch();
            base = newBase;
            life = newLife;
            epochLength = newEpochLength;
            startEpochIfOther(before);
        }

        int passTime(int ticks) {
            int before = epoch();
            time += ticks;
            startEpochIfOther(before);
            int ended = 0;
            for (int row = 0; row < MAX_MEMBERS; row++) {
                if (owners[row] != NONE && admitted[row] + life <= time) {
                    endIdentity(owners[row]);
                    ended++;
                }
            }
            return ended;
        }

        private void startEpochIfOther(int before) {
            if (epoch() != before) {
                epochAdmissions = 0;
            }
        }

        void endIdentity(int identity) {
            if (isMember(identity)) {
                owners[rowOf[identity]] = NONE;
                rowOf[identity] = NONE;
                memberCount--;
                counts[ENDED]++;
            }
        }

        /** Makes a member of an identity that may join, and returns the entries of its table. */
        int enter(Walk walk, int identity, int origin, int sponsor) {
            int row = freeRow();
            if (row == NONE) {
                return 0;
            }
            rowOf[identity] = row;
            owners[row] = identity;
            origins[row] = origin;
            admitted[row] = time;
            tables.clear(row);
            memberCount++;
            epochAdmissions++;
            counts[ADMISSIONS]++;
            if (sponsor != NONE) {
                learn(sponsor, identity);
                learn(identity, sponsor);
                makeLookup(walk, identity, identity);
            }
            return tables.entriesOf(row);
        }

        private int freeRow() {
            for (int row = 0; row < MAX_MEMBERS; row++) {
                if (owners[row] == NONE) {
                    return row;
                }
            }
            return NONE;
        }

        /** Makes the lookup that the walk tells, and returns its result. */
        int makeLookup(Walk walk, int from, int target) {
            walk.trace(this, from, target);
            counts[LOOKUPS]++;
            counts[STEPS] += walk.steps;
            counts[DEAD_CONTACTS] += walk.deadContacts;
            if (walk.hit) {
                counts[HITS]++;
            }
            for (int step = 0; step < walk.steps; step++) {
                int contact = walk.route[step];
                if (isMember(contact)) {
                    learn(contact, from);
                    learn(from, contact);
                } else {
                    forget(from, contact);
                }
            }
            return walk.result;
        }

        private void learn(int learner, int other) {
            if (learner == other || !isMember(learner) || !isMember(other)) {
                return;
            }
            int row = rowOf[learner];
            int origin = origins[rowOf[other]];
            int place = Tables.bucketPlace(row, Tables.bucketFor(learner, other));
            int index = tables.indexOf(place, other);
            if (index != NONE) {
                tables.removeAt(place, index);
                tables.append(place, other, origin);
                return;
            }
            int refusal = refusalOf(row, place, origin);
            if (refusal == NONE) {
                tables.append(place, other, origin);
                return;
            }
            counts[refusal]++;
            if (refusal == FULL_BUCKET) {
                // In a full bucket the first entry makes room, here for itself at the end.
                int first = place * BUCKET_CAPACITY;
                tables.append(place, tables.identities[first], tables.origins[first]);
            }
        }

        private int refusalOf(int row, int place, int origin) {
            if (tables.entriesOfOrigin(place, 1, origin) >= bucketQuota) {
                return BUCKET_QUOTA;
            }
            if (tables.entriesOfOrigin(Tables.bucketPlace(row, 0), BUCKETS, origin) >= tableQuota) {
                return TABLE_QUOTA;
            }
            boolean full = tables.sizes[place] >= BUCKET_CAPACITY;
            return full && isMember(tables.identities[place * BUCKET_CAPACITY]) ? FULL_BUCKET : NONE;
        }

        private void forget(int owner, int other) {
            if (owner == other || !isMember(owner)) {
                return;
            }
            int place = Tables.bucketPlace(rowOf[owner], Tables.bucketFor(owner, other));
            int index = tables.indexOf(place, other);
            if (index != NONE) {
                tables.removeAt(place, index);
            }
        }

        int tablesWith(int identity) {
            int holders = 0;
            for (int row = 0; row < MAX_MEMBERS; row++) {
                int owner = owners[row];
                if (owner != NONE && owner != identity) {
                    int place = Tables.bucketPlace(row, Tables.bucketFor(owner, identity));
                    if (tables.indexOf(place, identity) != NONE) {
                        holders++;
                    }
                }
            }
            return holders;
        }

        int largestOrigin() {
            int largest = 0;
            for (int origin = 0; origin <= LAST_ORIGIN; origin++) {
                int size = 0;
                for (int row = 0; row < MAX_MEMBERS; row++) {
                    if (owners[row] != NONE && origins[row] == origin) {
                        size++;
                    }
                }
                largest = Math.max(largest, size);
            }
            return largest;
        }

        boolean hasMemberNearer(int target, int distance) {
            for (int row = 0; row < MAX_MEMBERS; row++) {
                if (owners[row] != NONE && (owners[row] ^ target) < distance) {
                    return true;
                }
            }
            return false;
        }
    }

    /** The tables of all rows. A place is the number of a bucket among the buckets of all tables. */
    private static final class Tables {
        private static final int PLACES = MAX_MEMBERS * BUCKETS;
        private static final int SPOTS = PLACES * BUCKET_CAPACITY;

        final int[] sizes = new int[PLACES];
        final int[] identities = new int[SPOTS];
        final int[] origins = new int[SPOTS];

        /** The bucket of an owner for another identity, which must not be its own. */
        static int bucketFor(int owner, int other) {
            int distance = (owner ^ other) & LAST_IDENTITY;
            return Integer.numberOfLeadingZeros(distance | 1) - 24;
        }

        static int bucketPlace(int row, int bucket) {
            return row * BUCKETS + bucket;
        }

        void copyFrom(Tables other) {
            System.arraycopy(other.sizes, 0, sizes, 0, PLACES);
            System.arraycopy(other.identities, 0, identities, 0, SPOTS);
            System.arraycopy(other.origins, 0, origins, 0, SPOTS);
        }

        void clear(int row) {
            for (int bucket = 0; bucket < BUCKETS; bucket++) {
                sizes[bucketPlace(row, bucket)] = 0;
            }
        }

        int indexOf(int place, int identity) {
            int first = place * BUCKET_CAPACITY;
            for (int index = 0; index < sizes[place]; index++) {
                if (identities[first + index] == identity) {
                    return index;
                }
            }
            return NONE;
        }

        void removeAt(int place, int index) {
            if (index < 0 || index >= sizes[place]) {
                return;
            }
            int last = place * BUCKET_CAPACITY + sizes[place] - 1;
            for (int spot = place * BUCKET_CAPACITY + index; spot < last; spot++) {
                identities[spot] = identities[spot + 1];
                origins[spot] = origins[spot + 1];
            }
            sizes[place]--;
        }

        /** Puts an entry at the end; in a full bucket the first one makes room for it. */
        void append(int place, int identity, int origin) {
            if (sizes[place] >= BUCKET_CAPACITY) {
                removeAt(place, 0);
            }
            int spot = place * BUCKET_CAPACITY + sizes[place];
            identities[spot] = identity;
            origins[spot] = origin;
            sizes[place]++;
        }

        /** Counts the entries of an origin in several buckets that follow each other. */
        int entriesOfOrigin(int firstPlace, int places, int origin) {
            int found = 0;
            for (int place = firstPlace; place < firstPlace + places; place++) {
                int first = place * BUCKET_CAPACITY;
                for (int index = 0; index < sizes[place]; index++) {
                    if (origins[first + index] == origin) {
                        found++;
                    }
                }
            }
            return found;
        }

        int entriesOf(int row) {
            int found = 0;
            for (int bucket = 0; bucket < BUCKETS; bucket++) {
                found += sizes[bucketPlace(row, bucket)];
            }
            return found;
        }

        long hashOf(int row, long start) {
            long hash = start;
            for (int bucket = 0; bucket < BUCKETS; bucket++) {
                int place = bucketPlace(row, bucket);
                int first = place * BUCKET_CAPACITY;
                hash = 31 * hash + sizes[place];
                for (int index = 0; index < sizes[place]; index++) {
                    hash = 31 * hash + identities[first + index];
                    hash = 31 * hash + origins[first + index];
                }
            }
            return hash;
        }
    }

    /**
     * The course of one lookup. It changes nothing: each table is read before the lookup changes it and never
     * again after that, so that the course is the same whether the changes are made at once, later or not at all.
     */
    private static final class Walk {
        private static final int NEAREST = 3;
        private static final int MAX_STEPS = 12;
        private static final int MAX_KNOWN = NEAREST * (MAX_STEPS + 1);
        private static final int UNTRIED = 0;
        private static final int CONTACTED = 1;
        private static final int DEAD = 2;

        final int[] route = new int[MAX_STEPS];
        int steps = 0;
        int deadContacts = 0;
        int result = NONE;
        boolean hit = false;

        // Identities are held as their distances to the target, which tell them as well, in ascending order.
        private final int[] nearest = new int[NEAREST];
        private int nearestCount = 0;
        private final int[] known = new int[MAX_KNOWN];
        // Dead identities stay in the list, marked, because they must not become known again.
        private final int[] marks = new int[MAX_KNOWN];
        private int knownCount = 0;

        void trace(State state, int from, int target) {
            steps = 0;
            deadContacts = 0;
            knownCount = 0;
            int best = from ^ target;
            hear(state, from, from, target);
            for (int step = 0; step < MAX_STEPS; step++) {
                int spot = nextSpot();
                if (spot == NONE) {
                    break;
                }
                int distance = known[spot];
                int contact = distance ^ target;
                route[step] = contact;
                steps++;
                if (state.isMember(contact)) {
                    marks[spot] = CONTACTED;
                    best = Math.min(best, distance);
                    hear(state, contact, from, target);
                } else {
                    marks[spot] = DEAD;
                    deadContacts++;
                }
            }
            result = best ^ target;
            hit = !state.hasMemberNearer(target, best);
        }

        private int nextSpot() {
            int living = 0;
            for (int spot = 0; spot < knownCount && living < NEAREST; spot++) {
                if (marks[spot] == UNTRIED) {
                    return spot;
                }
                if (marks[spot] == CONTACTED) {
                    living++;
                }
            }
            return NONE;
        }

        /** Makes known the nearest entries of a member's table, but not the one who asks. */
        private void hear(State state, int teller, int asker, int target) {
            if (!state.isMember(teller)) {
                return;
            }
            Tables tables = state.tables;
            int firstPlace = Tables.bucketPlace(state.rowOf[teller], 0);
            nearestCount = 0;
            for (int place = firstPlace; place < firstPlace + BUCKETS; place++) {
                int first = place * BUCKET_CAPACITY;
                for (int index = 0; index < tables.sizes[place]; index++) {
                    offerNearest(tables.identities[first + index] ^ target);
                }
            }
            for (int i = 0; i < nearestCount; i++) {
                if (nearest[i] != (asker ^ target)) {
                    addKnown(nearest[i]);
                }
            }
        }

        private void offerNearest(int distance) {
            int spot = nearestCount;
            if (nearestCount < NEAREST) {
                nearestCount++;
            } else if (distance < nearest[NEAREST - 1]) {
                spot = NEAREST - 1;
            } else {
                return;
            }
            while (spot > 0 && nearest[spot - 1] > distance) {
                nearest[spot] = nearest[spot - 1];
                spot--;
            }
            nearest[spot] = distance;
        }

        private void addKnown(int distance) {
            int spot = knownCount;
            while (spot > 0 && known[spot - 1] > distance) {
                spot--;
            }
            boolean there = spot > 0 && known[spot - 1] == distance;
            if (there || knownCount >= MAX_KNOWN) {
                return;
            }
            for (int later = knownCount; later > spot; later--) {
                known[later] = known[later - 1];
                marks[later] = marks[later - 1];
            }
            known[spot] = distance;
            marks[spot] = UNTRIED;
            knownCount++;
        }
    }

    /** The bytes of the script, and the commands that were read from them last. */
    private static final class Script {
        static final int CAPACITY = 120;
        static final int JOIN = 0;
        static final int LEAVE = 1;
        static final int LOOK = 2;
        static final int TICK = 3;
        // The shortest command has seven bytes, so that no script has more than 17.
        private static final int MAX_COMMANDS = 20;
        private static final int MAX_NUMBERS = 3;
        private static final int MAX_DIGITS = 5;
        private static final int END = -1;

        final int[] bytes = new int[CAPACITY];
        int length = 0;
        final int[] words = new int[MAX_COMMANDS];
        int commands = 0;
        private final int[] numbers = new int[MAX_COMMANDS * MAX_NUMBERS];
        private int position = 0;

        int number(int command, int index) {
            return numbers[command * MAX_NUMBERS + index];
        }

        /** Reads the commands, and returns the fault, or NONE. */
        int parse() {
            position = 0;
            commands = 0;
            for (int round = 0; round < MAX_COMMANDS; round++) {
                skipSpaces();
                if (position >= length) {
                    return NONE;
                }
                int fault = readCommand();
                if (fault != NONE) {
                    return fault;
                }
                commands++;
            }
            return NONE;
        }

        private int readCommand() {
            int start = position;
            skipLetters();
            int word = wordFrom(start);
            if (word == NONE) {
                return start;
            }
            words[commands] = word;
            for (int index = 0; index < numbersOf(word); index++) {
                if (!readNumber(commands * MAX_NUMBERS + index)) {
                    return position;
                }
            }
            skipSpaces();
            if (peek() != ';') {
                return position;
            }
            position++;
            return NONE;
        }

        /** Leaves the position at the byte that cannot stand there, if there is one. */
        private boolean readNumber(int spot) {
            if (peek() != ' ') {
                return false;
            }
            skipSpaces();
            if (!isDigit(peek())) {
                return false;
            }
            int value = 0;
            for (int digits = 0; digits < MAX_DIGITS && isDigit(peek()); digits++) {
                value = 10 * value + (peek() - '0');
                position++;
            }
            numbers[spot] = value;
            return !isDigit(peek());
        }

        private int wordFrom(int start) {
            if (spells(start, "join")) {
                return JOIN;
            }
            if (spells(start, "leave")) {
                return LEAVE;
            }
            if (spells(start, "look")) {
                return LOOK;
            }
            return spells(start, "tick") ? TICK : NONE;
        }

        private boolean spells(int start, String text) {
            if (position - start != text.length()) {
                return false;
            }
            for (int i = 0; i < text.length(); i++) {
                if (bytes[start + i] != text.charAt(i)) {
                    return false;
                }
            }
            return true;
        }

        private static int numbersOf(int word) {
            switch (word) {
                case JOIN: return 3;
                case LOOK: return 2;
                default: return 1;
            }
        }

        private void skipSpaces() {
            while (position < length && bytes[position] == ' ') {
                position++;
            }
        }

        private void skipLetters() {
            while (position < length && bytes[position] >= 'a' && bytes[position] <= 'z') {
                position++;
            }
        }

        private int peek() {
            return position < length ? bytes[position] : END;
        }

        private static boolean isDigit(int value) {
            return value >= '0' && value <= '9';
        }
    }
}
