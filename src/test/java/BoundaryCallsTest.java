import java.math.BigInteger;
import java.util.ArrayList;
import java.util.List;

/** The promises 1 to 24: a test of its own for each sentence that names a boundary. */
public final class BoundaryCallsTest extends Checks {

    private static QuotaOverlay fresh() {
        return new QuotaOverlay();
    }

    private static QuotaOverlay alone() {
        return withMembers(100);
    }

    /** Members at both ends of the space. */
    private static QuotaOverlay ends() {
        return withMembers(0, 255, 100);
    }

    // ---- 1: a new object

    private static void newObject() {
        promise(1, "Creates an overlay as described, without members, with all counts 0, an empty script and an empty "
                + "undo stack.");
        QuotaOverlay x = fresh();
        dueOverlay(x, 0, 0, 0, 2, 0, 2, 8, 100, 0);
        dueCounts(x, 0, 0, 0, 0, 0, 0, 0, 0, 0);
        dueMembers(x);
        for (int identity = 0; identity <= 255; identity++) {
            due("member(" + identity + ", 0)", x.member(identity, 0), 0);
        }
        refused(x, "undo()", STATE, x::undo);
        due("run()", x.run(), 0);
        x.undo();
        due("clearScript()", x.clearScript(), 0);
    }

    private static void objectsApart() {
        promise(1, "Creates an overlay as described");
        QuotaOverlay x = fresh();
        QuotaOverlay y = fresh();
        long before = y.digest();
        x.admit(1, 1, NONE);
        x.setQuotas(1, 1);
        x.setPuzzles(6, 10, 5);
        x.tick(5);
        x.type('t');
        due("another object", y.digest(), before);
        due("an object made later", fresh().digest(), before);
    }

    // ---- 2: setPuzzles

    private static void setPuzzles() {
        promise(2, "`base`: 0 to 6");
        range(0, 6, BoundaryCallsTest::fresh, (x, v) -> x.setPuzzles(v, 100, 20));
        promise(2, "`life`: 10 to 1000");
        range(10, 1000, BoundaryCallsTest::fresh, (x, v) -> x.setPuzzles(2, v, 20));
        promise(2, "`epoch`: epoch length, 5 to 100");
        range(5, 100, BoundaryCallsTest::fresh, (x, v) -> x.setPuzzles(2, 100, v));
    }

    private static void previousBase() {
        promise(2, "Returns the previous base.");
        QuotaOverlay x = fresh();
        due("of a new object", x.setPuzzles(6, 100, 20), 2);
        due("the greatest", x.setPuzzles(0, 100, 20), 6);
        due("the least", x.setPuzzles(0, 100, 20), 0);
        x.admit(0, 0, NONE);
        x.swarm(1, 1, 8, 0, 0);
        due("the base, not the difficulty", x.setPuzzles(1, 100, 20), 0);
    }

    // ---- 3: setQuotas

    private static void setQuotas() {
        promise(3, "`bucket`: bucket quota, 1 to 4");
        range(1, 4, BoundaryCallsTest::fresh, (x, v) -> x.setQuotas(v, 8));
        promise(3, "`table`: table quota, 1 to 32");
        range(1, 32, BoundaryCallsTest::fresh, (x, v) -> x.setQuotas(2, v));
    }

    private static void previousQuotas() {
        promise(3, "Returns 10 * (previous table quota) + (previous bucket quota).");
        QuotaOverlay x = fresh();
        due("of a new object", x.setQuotas(1, 1), 82);
        due("the least", x.setQuotas(4, 32), 11);
        due("the greatest", x.setQuotas(1, 32), 324);
        due("one of each", x.setQuotas(2, 2), 321);
    }

    private static void entriesBeyondQuotas() {
        promise(3, "Sets the quotas; entries that there are stay.");
        QuotaOverlay x = withMembers(0, 128, 129, 130, 131, 64);
        String table = table(x, 0);
        x.setQuotas(1, 1);
        dueTable(x, 0, table);
        due("entries", x.member(0, 3), 5);
        x.lookup(0, 64);
        due("entries after a lookup", x.member(0, 3), 5);
    }

    // ---- 4: tick

    private static void tick() {
        promise(4, "`ticks`: 1 to 500");
        range(1, 500, BoundaryCallsTest::fresh, (x, v) -> x.tick(v));
        QuotaOverlay x = fresh();
        x.tick(1);
        due("the time", x.overlay(1), 1);
        x.tick(500);
        due("the time", x.overlay(1), 501);
    }

    private static void endedByTick() {
        promise(4, "Returns the number of members whose identities have ended.");
        QuotaOverlay x = full();
        due("none", x.tick(500), 0);
        x.leave(10);
        due("none once more", x.tick(499), 0);
        due("all others, not the one who left before", x.tick(1), 23);
        due("none is left", x.tick(500), 0);
        due("ended in all", x.count(1), 24);
    }

    // ---- 5: solve

    private static void solve() {
        promise(5, "`identity`: 0 to 255");
        range(0, 255, BoundaryCallsTest::fresh, (x, v) -> x.solve(v));
        promise(5, "Returns the smallest nonce that solves the puzzle of an identity now.");
        QuotaOverlay x = fresh();
        for (int identity = 0; identity <= 255; identity++) {
            due("solve(" + identity + ")", x.solve(identity), smallestNonce(identity, 0, 2));
        }
        x.setPuzzles(0, 100, 20);
        due("difficulty 0", x.solve(255), 0);
        due("solving does not admit", x.overlay(0), 0);
    }

    /** Six bits of base and 24 admissions in the present epoch. */
    private static void makeHardest(QuotaOverlay x) {
        x.setPuzzles(6, 1000, 5);
        x.admit(0, 0, NONE);
        x.swarm(1, 1, 16, 0, 0);
        x.swarm(101, 1, 7, 0, 0);
    }

    private static void greatNonce() {
        promise(5, "Returns the nonce; NONE if none up to 99999 solves it.");
        // Whatever identity and epoch are, some nonce below 54500 solves a puzzle of difficulty 12 (all 2 to the 32th
        // sums were tried), so that NONE is never due; this is about as far as a search has to go.
        QuotaOverlay x = fresh();
        x.setPuzzles(6, 1000, 5);
        for (int i = 0; i < 18; i++) {
            x.tick(500);
        }
        x.tick(90);
        makeHardest(x);
        due("the epoch", x.overlay(2), 1818);
        due("the difficulty", x.overlay(3), 12);
        due("solve(62)", x.solve(62), 53749);
        due("its zeros", zerosByHand(62, 53749, 1818) >= 12);
        x.leave(101);
        refused(x, "a nonce before it", UNSUPPORTED, () -> x.join(62, 0, 53748, 0));
        x.undo();
        x.leave(102);
        accepted("admit() finds it too", () -> x.admit(62, 0, 0));
    }

    // ---- 6: zeros

    private static void zeros() {
        promise(6, "`identity`: 0 to 255");
        range(0, 255, BoundaryCallsTest::fresh, (x, v) -> x.zeros(v, 0, 0));
        promise(6, "`nonce`: 0 to 99999");
        range(0, 99999, BoundaryCallsTest::fresh, (x, v) -> x.zeros(0, v, 0));
        promise(6, "`epoch`: 0 or more");
        range(0, Integer.MAX_VALUE, BoundaryCallsTest::fresh, (x, v) -> x.zeros(0, 0, v));
    }

    private static void zerosRange() {
        promise(6, "Returns 0 to 32.");
        QuotaOverlay x = fresh();
        due("a hash of 0", x.zeros(0, 0, 0), 32);
        due("a hash of 0 by overflow", x.zeros(28, 99999, 2845031), 32);
        due("a hash of 1", x.zeros(202, 99999, 2918164), 31);
        due("a hash of 2", x.zeros(134, 99999, 4021324), 30);
        due("a hash with its highest bit", x.zeros(5, 0, 0), 0);
        due("by hand", zerosByHand(28, 99999, 2845031) + 100 * zerosByHand(202, 99999, 2918164), 3132);
    }

    // ---- 7: join

    private static void sponsorRange(Argument call) {
        accepted("the sponsor NONE", () -> call.on(open(), NONE));
        accepted("the sponsor 0", () -> call.on(ends(), 0));
        accepted("the sponsor 255", () -> call.on(ends(), 255));
        int[] values = {-2, 256, Integer.MIN_VALUE, Integer.MAX_VALUE};
        for (int value : values) {
            QuotaOverlay empty = open();
            refused(empty, "the sponsor " + value + " without members", ARGUMENT, () -> call.on(empty, value));
            QuotaOverlay ends = ends();
            refused(ends, "the sponsor " + value + " with members", ARGUMENT, () -> call.on(ends, value));
        }
    }

    private static void join() {
        promise(7, "`identity`: 0 to 255");
        range(0, 255, BoundaryCallsTest::alone, (x, v) -> x.join(v, 0, 0, 100));
        promise(7, "`origin`: 0 to 7");
        range(0, 7, BoundaryCallsTest::alone, (x, v) -> x.join(5, v, 0, 100));
        promise(7, "`nonce`: 0 to 99999");
        range(0, 99999, BoundaryCallsTest::alone, (x, v) -> x.join(5, 0, v, 100));
        promise(7, "or sponsor is neither NONE nor from 0 to 255");
        sponsorRange((x, v) -> x.join(5, 0, 0, v));
    }

    private static void joinStates() {
        promise(7, "Throws `IllegalStateException` if there is such a member already, or there are 24 members");
        QuotaOverlay x = full();
        refused(x, "such a member and 24", STATE, () -> x.join(0, 0, 0, 10));
        refused(x, "24 members", STATE, () -> x.join(1, 0, 0, 10));
        x.leave(230);
        refused(x, "such a member", STATE, () -> x.join(0, 0, 0, 10));
        int nonce = x.solve(1);
        accepted("23 members", () -> x.join(1, 0, nonce, 10));
    }

    private static void joinSolutions() {
        promise(7, "Throws `UnsupportedOperationException` if the nonce does not solve the puzzle, or sponsor is not as "
                + "told");
        QuotaOverlay x = fresh();
        refused(x, "a nonce that does not solve it", UNSUPPORTED, () -> x.join(5, 0, 6, NONE));
        refused(x, "a sponsor without members", UNSUPPORTED, () -> x.join(5, 0, 7, 0));
        due("the first", x.join(5, 0, 7, NONE), 0);
        int nonce = x.solve(200);
        refused(x, "no sponsor with members", UNSUPPORTED, () -> x.join(200, 0, nonce, NONE));
        refused(x, "a sponsor that is no member", UNSUPPORTED, () -> x.join(200, 0, nonce, 4));
        due("the second", x.join(200, 0, nonce, 5), 1);
    }

    private static void entriesOfNewMembers() {
        promise(7, "Returns the number of entries of its table.");
        QuotaOverlay x = open();
        due("without members", x.join(0, 0, 0, NONE), 0);
        due("with one member", x.join(128, 0, 0, 0), 1);
        due("with two members", x.join(64, 0, 0, 0), 2);
        due("with three members", x.join(32, 0, 0, 128), 3);
        due("as member() tells", x.member(32, 3), 3);
        QuotaOverlay y = chain(5);
        due("with a table quota of 1", y.admit(9, 0, 4), 1);
    }

    // ---- 8: admit

    private static void admit() {
        promise(8, "`identity`: 0 to 255");
        range(0, 255, BoundaryCallsTest::alone, (x, v) -> x.admit(v, 0, 100));
        promise(8, "`origin`: 0 to 7");
        range(0, 7, BoundaryCallsTest::alone, (x, v) -> x.admit(5, v, 100));
        promise(8, "or sponsor is neither NONE nor from 0 to 255");
        sponsorRange((x, v) -> x.admit(5, 0, v));
    }

    private static void admitStates() {
        promise(8, "Throws `IllegalStateException` if there is such a member already, or there are 24 members");
        QuotaOverlay x = full();
        refused(x, "such a member and 24", STATE, () -> x.admit(0, 0, 10));
        refused(x, "24 members", STATE, () -> x.admit(1, 0, 10));
        x.leave(230);
        refused(x, "such a member", STATE, () -> x.admit(0, 0, 10));
        accepted("23 members", () -> x.admit(1, 0, 10));
    }

    private static void admitSponsors() {
        promise(8, "Throws `UnsupportedOperationException` if no nonce solves the puzzle, or sponsor is not as for join()");
        QuotaOverlay x = fresh();
        refused(x, "a sponsor without members", UNSUPPORTED, () -> x.admit(5, 0, 0));
        due("the first", x.admit(5, 0, NONE), 0);
        refused(x, "no sponsor with members", UNSUPPORTED, () -> x.admit(200, 0, NONE));
        refused(x, "a sponsor that is no member", UNSUPPORTED, () -> x.admit(200, 0, 4));
        due("the second", x.admit(200, 0, 5), 1);
    }

    private static void admitAsJoin() {
        promise(8, "Lets an identity join with the nonce that solve() returns. Undoable.");
        QuotaOverlay x = ends();
        QuotaOverlay y = ends();
        due("admit() as join()", x.admit(7, 3, 255), y.join(7, 3, y.solve(7), 255));
        due("the state", x.digest(), y.digest());
    }

    // ---- 9: leave

    private static void leave() {
        promise(9, "`identity`: 0 to 255");
        range(0, 255, BoundaryCallsTest::ends, (x, v) -> x.leave(v));
        promise(9, "Removes a member, as if its identity had ended.");
        QuotaOverlay x = ends();
        String table = table(x, 0);
        due("leave(255)", x.leave(255), 2);
        dueTable(x, 0, table);
        due("ended", x.count(1), 1);
        due("its table is gone", x.member(255, 3), NONE);
        due("admissions", x.overlay(4), 3);
    }

    private static void membersLeft() {
        promise(9, "Returns the number of members that are left.");
        QuotaOverlay x = full();
        for (int left = 23; left >= 0; left--) {
            due("leave()", x.leave(x.memberAt(0)), left);
        }
        due("nobody is left", x.overlay(0), 0);
    }

    private static void leaveTwice() {
        promise(9, "Throws `IllegalStateException` if there is no such member");
        QuotaOverlay x = withMembers(7);
        refused(x, "one that never was", STATE, () -> x.leave(8));
        x.leave(7);
        refused(x, "one that left", STATE, () -> x.leave(7));
        QuotaOverlay y = fresh();
        refused(y, "one where there are none", STATE, () -> y.leave(0));
    }

    // ---- 10: swarm

    private static void swarm() {
        promise(10, "`first`: 0 to 255");
        range(0, 255, BoundaryCallsTest::alone, (x, v) -> x.swarm(v, 1, 1, 0, 100));
        promise(10, "`step`: 1 to 255");
        range(1, 255, BoundaryCallsTest::alone, (x, v) -> x.swarm(0, v, 2, 0, 100));
        promise(10, "`many`: 1 to 16");
        range(1, 16, BoundaryCallsTest::alone, (x, v) -> x.swarm(0, 1, v, 0, 100));
        promise(10, "`origin`: 0 to 7");
        range(0, 7, BoundaryCallsTest::alone, (x, v) -> x.swarm(0, 1, 1, v, 100));
        promise(10, "`sponsor`: identity of a member");
        range(0, 255, BoundaryCallsTest::ends, (x, v) -> x.swarm(50, 1, 1, 0, v));
    }

    private static void swarmWraps() {
        promise(10, "first, first + step, first + 2 * step, and so on (modulo 256)");
        QuotaOverlay x = withMembers(100);
        due("255, 0, 1", x.swarm(255, 1, 3, 0, 100), 3);
        dueMembers(x, 0, 1, 100, 255);
        QuotaOverlay y = withMembers(100);
        due("1, 0, 255, 254", y.swarm(1, 255, 4, 0, 100), 4);
        dueMembers(y, 0, 1, 100, 254, 255);
        QuotaOverlay z = withMembers(100);
        due("255, 254 and so on to 240", z.swarm(255, 255, 16, 0, 100), 16);
        dueMembers(z, 100, 240, 241, 242, 243, 244, 245, 246, 247, 248, 249, 250, 251, 252, 253, 254, 255);
        QuotaOverlay v = withMembers(100);
        due("192 round and round", v.swarm(0, 192, 16, 0, 100), 4);
        dueMembers(v, 0, 64, 100, 128, 192);
    }

    private static void swarmPassesOver() {
        promise(10, "as many as told; those that cannot join are passed over");
        QuotaOverlay x = withMembers(10, 12);
        due("the members 10 and 12 are among 16", x.swarm(5, 1, 16, 2, 12), 14);
        due("origins stay", x.member(10, 1), 0);
        due("18 times one origin of 14", x.overlay(8), 14);
        due("those after the last are not taken", x.member(21, 0), 0);
        due("the last one is", x.member(20, 0), 1);
        due("eight more are enough", x.swarm(200, 1, 16, 3, 12), 8);
        due("the first ones", x.member(207, 0) + 10 * x.member(208, 0), 1);
        due("nobody where there are 24", x.swarm(30, 1, 16, 3, 12), 0);
    }

    private static void swarmSponsor() {
        promise(10, "The sponsor of each is a given member.");
        QuotaOverlay x = chain(3);
        x.swarm(128, 1, 3, 0, 2);
        // With a table quota of 1 each one keeps its sponsor as its only entry.
        dueTable(x, 128, "0:2/0");
        dueTable(x, 129, "0:2/0");
        dueTable(x, 130, "0:2/0");
        refused(x, "the sponsor NONE", ARGUMENT, () -> x.swarm(50, 1, 1, 0, NONE));
        QuotaOverlay none = fresh();
        refused(none, "NONE where there are no members", ARGUMENT, () -> none.swarm(50, 1, 1, 0, NONE));
        refused(none, "another where there are no members", STATE, () -> none.swarm(50, 1, 1, 0, 50));
    }

    private static void swarmWithoutSponsor() {
        promise(10, "Throws `IllegalStateException` if sponsor is no member");
        QuotaOverlay x = withMembers(7, 8);
        refused(x, "one of the swarm", STATE, () -> x.swarm(50, 1, 3, 0, 50));
        x.leave(8);
        refused(x, "one that left", STATE, () -> x.swarm(50, 1, 3, 0, 8));
        due("it may itself be of the swarm", x.swarm(7, 1, 2, 0, 7), 1);
    }

    private static void swarmJoined() {
        promise(10, "Returns how many joined.");
        QuotaOverlay x = withMembers(7);
        due("none", x.swarm(7, 1, 1, 0, 7), 0);
        due("one", x.swarm(8, 1, 1, 0, 7), 1);
        due("sixteen", x.swarm(50, 1, 16, 0, 7), 16);
        due("admissions", x.count(0), 18);
        due("difficulty as each joined", x.overlay(3), 4);
    }

    // ---- 11 to 13: lookups

    private static void lookup() {
        promise(11, "`from`: identity of a member");
        range(0, 255, BoundaryCallsTest::ends, (x, v) -> x.lookup(v, 5));
        promise(11, "`target`: 0 to 255");
        range(0, 255, BoundaryCallsTest::ends, (x, v) -> x.lookup(100, v));
        promise(11, "Throws `IllegalStateException` if from is no member");
        QuotaOverlay x = ends();
        refused(x, "one that never was", STATE, () -> x.lookup(101, 0));
        x.leave(100);
        refused(x, "one that left", STATE, () -> x.lookup(100, 0));
    }

    private static void lookupResult() {
        promise(11, "Returns the identity of its result.");
        QuotaOverlay x = ends();
        due("the least identity", x.lookup(100, 0), 0);
        due("the greatest identity", x.lookup(100, 255), 255);
        due("its own", x.lookup(100, 101), 100);
        due("no member any more", x.leave(255) + x.lookup(100, 255), 102);
    }

    private static void probe() {
        promise(12, "`from`: identity of a member");
        range(0, 255, BoundaryCallsTest::ends, (x, v) -> x.probe(v, 5, 0));
        promise(12, "`target`: 0 to 255");
        range(0, 255, BoundaryCallsTest::ends, (x, v) -> x.probe(100, v, 0));
        promise(12, "`what`: 0 its result, 1 number of steps, 2 number of dead contacts, 3 1 if it is a hit or 0 if not");
        range(0, 3, BoundaryCallsTest::ends, (x, v) -> x.probe(100, 5, v));
        QuotaOverlay x = chain(15);
        dueProbe(x, 13, 0, 1, 12, 0, 0);
        x.leave(1);
        dueProbe(x, 13, 0, 2, 12, 1, 0);
        x.leave(0);
        dueProbe(x, 13, 0, 2, 12, 1, 1);
        promise(12, "Throws `IllegalStateException` if from is no member");
        refused(x, "one that left", STATE, () -> x.probe(1, 0, 0));
        refused(x, "one that never was", STATE, () -> x.probe(255, 0, 0));
    }

    private static void probeChangesNothing() {
        promise(12, "Tells what a lookup would do. Nothing changes.");
        QuotaOverlay x = ends();
        x.leave(255);
        long before = x.digest();
        dueProbe(x, 100, 255, 100, 2, 1, 1);
        due("not even the dead entry", x.digest(), before);
        due("the lookup does it", x.lookup(100, 255), 100);
        due("dead contacts", x.count(4), 1);
    }

    private static void reach() {
        promise(13, "`identity`: 0 to 255");
        range(0, 255, BoundaryCallsTest::ends, (x, v) -> x.reach(v));
        promise(13, "Counts the targets from 0 to 255 for which a lookup of a member would be a hit. Nothing changes.");
        QuotaOverlay x = chain(15);
        long before = x.digest();
        int hits = 0;
        for (int target = 0; target <= 255; target++) {
            hits += x.probe(14, target, 3);
        }
        due("as probe() tells", x.reach(14), hits);
        due("not all", hits > 0 && hits < 256);
        due("nothing changes", x.digest(), before);
        due("all of them", withMembers(255).reach(255), 256);
        promise(13, "Throws `IllegalStateException` if there is no such member");
        refused(x, "one that never was", STATE, () -> x.reach(255));
        x.leave(3);
        refused(x, "one that left", STATE, () -> x.reach(3));
    }

    private static void reachOfOneSide() {
        promise(13, "Counts the targets from 0 to 255 for which a lookup of a member would be a hit.");
        // 0 knows nobody, and is the nearest one to the targets up to 127 alone.
        QuotaOverlay x = open();
        x.setQuotas(1, 1);
        x.admit(64, 0, NONE);
        x.admit(0, 0, 64);
        x.admit(128, 0, 64);
        x.leave(64);
        x.lookup(0, 64);
        dueTable(x, 0, "");
        due("reach(0)", x.reach(0), 128);
    }

    // ---- 14 to 19: values

    private static void member() {
        promise(14, "`identity`: 0 to 255");
        range(0, 255, BoundaryCallsTest::fresh, (x, v) -> x.member(v, 0));
        promise(14, "`what`: 0 1 if it is a member or 0 if not; 1 origin, 2 time of admission, 3 entries of its table, 4 "
                + "tables of other members with an entry for it (1 to 4: NONE if it is no member)");
        range(0, 4, BoundaryCallsTest::fresh, (x, v) -> x.member(5, v));
        QuotaOverlay x = ends();
        int[] want = {1, 0, 0, 2, 2};
        for (int what = 0; what <= 4; what++) {
            due("member(255, " + what + ")", x.member(255, what), want[what]);
            due("member(254, " + what + ")", x.member(254, what), what == 0 ? 0 : NONE);
        }
        x.leave(255);
        for (int what = 0; what <= 4; what++) {
            due("member(255, " + what + ")", x.member(255, what), what == 0 ? 0 : NONE);
        }
        due("entries for one that left stay", x.member(0, 3), 2);
    }

    private static void tablesOfOthers() {
        promise(14, "4 tables of other members with an entry for it");
        due("none where it is alone", alone().member(100, 4), 0);
        QuotaOverlay x = full();
        String[] tables = new String[24];
        for (int index = 0; index < 24; index++) {
            tables[index] = table(x, x.memberAt(index));
        }
        int most = 0;
        for (int index = 0; index < 24; index++) {
            int identity = x.memberAt(index);
            int holders = 0;
            for (String table : tables) {
                holders += table.contains(":" + identity + "/") ? 1 : 0;
            }
            due("tables with " + identity, x.member(identity, 4), holders);
            most = Math.max(most, holders);
        }
        due("some are in many tables", most > 10);
        QuotaOverlay y = withMembers(1, 2);
        y.leave(2);
        y.admit(2, 5, 1);
        due("an entry from a former time counts, once", y.member(2, 4), 1);
    }

    private static void memberAt() {
        promise(15, "`index`: 0 or more; members in ascending order of their identities");
        range(0, Integer.MAX_VALUE, BoundaryCallsTest::fresh, (x, v) -> x.memberAt(v));
        promise(15, "Returns the identity; NONE if there are not so many.");
        due("no members", fresh().memberAt(0), NONE);
        QuotaOverlay x = withMembers(255, 100, 0);
        dueMembers(x, 0, 100, 255);
        due("far too many", x.memberAt(Integer.MAX_VALUE), NONE);
        QuotaOverlay y = full();
        due("the 24th", y.memberAt(23), 230);
        due("a 25th", y.memberAt(24), NONE);
    }

    private static void entry() {
        promise(16, "`bucket`: 0 to 7");
        range(0, 7, BoundaryCallsTest::ends, (x, v) -> x.entry(100, v, 0, 0));
        promise(16, "`index`: 0 or more");
        range(0, Integer.MAX_VALUE, BoundaryCallsTest::ends, (x, v) -> x.entry(100, 0, v, 0));
        promise(16, "`what`: 0 identity, 1 origin");
        range(0, 1, BoundaryCallsTest::ends, (x, v) -> x.entry(100, 0, 0, v));
        promise(16, "`identity`: 0 to 255");
        range(0, 255, BoundaryCallsTest::ends, (x, v) -> x.entry(v, 0, 0, 0));
    }

    private static void entriesOfBuckets() {
        promise(16, "Returns that value; NONE if the bucket has not so many entries.");
        QuotaOverlay x = withMembers(0);
        due("an empty bucket", x.entry(0, 0, 0, 0), NONE);
        due("an empty last bucket", x.entry(0, 7, 0, 1), NONE);
        for (int i = 0; i < 4; i++) {
            x.admit(128 + i, 4 + i, 0);
            due("entry " + i, x.entry(0, 0, i, 0), 128 + i);
            due("its origin", x.entry(0, 0, i, 1), 4 + i);
            due("the one behind it", x.entry(0, 0, i + 1, 0), NONE);
            due("the origin behind it", x.entry(0, 0, i + 1, 1), NONE);
        }
        due("the next bucket", x.entry(0, 1, 0, 0), NONE);
        due("far behind", x.entry(0, 0, Integer.MAX_VALUE, 1), NONE);
        promise(16, "Throws `IllegalStateException` if there is no such member");
        refused(x, "one that never was", STATE, () -> x.entry(1, 0, 0, 0));
        x.leave(128);
        refused(x, "one that left", STATE, () -> x.entry(128, 0, 0, 0));
    }

    private static void share() {
        promise(17, "`identity`: 0 to 255");
        range(0, 255, BoundaryCallsTest::ends, (x, v) -> x.share(v, 0));
        promise(17, "`origin`: 0 to 7");
        range(0, 7, BoundaryCallsTest::ends, (x, v) -> x.share(100, v));
        promise(17, "Throws `IllegalStateException` if there is no such member");
        QuotaOverlay none = ends();
        refused(none, "one that never was", STATE, () -> none.share(101, 0));
        none.leave(100);
        refused(none, "one that left", STATE, () -> none.share(100, 0));
        promise(17, "Returns floor(1000 * (entries with this origin) / (all entries)); 0 if the table has no entries.");
        QuotaOverlay x = withMembers(0);
        due("no entries", x.share(0, 0), 0);
        int[] identities = {128, 64, 32, 16, 8, 4, 2};
        int[] shares = {1000, 500, 333, 250, 200, 166, 142};
        for (int i = 0; i < identities.length; i++) {
            x.admit(identities[i], i == 0 ? 7 : 1, 0);
            due("one of " + (i + 1), x.share(0, 7), shares[i]);
            due("the others of " + (i + 1), x.share(0, 1), 1000 * i / (i + 1));
            due("an origin without entries", x.share(0, 3), 0);
        }
    }

    private static void overlay() {
        promise(18, "`what`: 0 members, 1 time, 2 epoch, 3 difficulty, 4 admissions in the epoch, 5 bucket quota, 6 table "
                + "quota, 7 life, 8 members of the origin with the most members");
        range(0, 8, BoundaryCallsTest::fresh, (x, v) -> x.overlay(v));
        dueOverlay(full(), 24, 0, 0, 6, 24, 4, 32, 1000, 23);
        QuotaOverlay x = fresh();
        due("the most of none", x.overlay(8), 0);
        x.admit(1, 7, NONE);
        due("the most of one", x.overlay(8), 1);
        x.admit(2, 0, 1);
        due("the most of two origins with one each", x.overlay(8), 1);
        x.admit(3, 0, 1);
        due("the first origin", x.overlay(8), 2);
        x.leave(2);
        due("without one that left", x.overlay(8), 1);
    }

    private static void count() {
        promise(19, "`what`: 0 admissions, 1 identities that ended (also by leave()), 2 lookups (also those that new members "
                + "make), 3 steps of all these, 4 dead contacts, 5 refusals by BUCKET_QUOTA, 6 by TABLE_QUOTA, 7 by "
                + "FULL_BUCKET, 8 lookups that were hits");
        range(0, 8, BoundaryCallsTest::fresh, (x, v) -> x.count(v));
        QuotaOverlay x = chain(2);
        dueCounts(x, 2, 0, 1, 1, 0, 0, 0, 0, 1);
        x.admit(2, 0, 1);
        // 1 refuses 2 twice and 0 does once, by their tables; 2 refuses 0 by its bucket, which has 1.
        dueCounts(x, 3, 0, 2, 3, 0, 1, 3, 0, 2);
        x.leave(0);
        dueCounts(x, 3, 1, 2, 3, 0, 1, 3, 0, 2);
        x.lookup(2, 0);
        dueCounts(x, 3, 1, 3, 5, 1, 1, 4, 0, 3);
        x.tick(500);
        x.tick(500);
        dueCounts(x, 3, 3, 3, 5, 1, 1, 4, 0, 3);
    }

    private static void nothingHappens() {
        promise(19, "(by probe() and reach() nothing happens)");
        QuotaOverlay x = chain(5);
        x.leave(0);
        int[] before = new int[9];
        for (int what = 0; what <= 8; what++) {
            before[what] = x.count(what);
        }
        for (int what = 0; what <= 3; what++) {
            x.probe(4, 0, what);
        }
        x.reach(4);
        dueCounts(x, before);
    }

    // ---- 20 to 24: scripts, undo and checksum

    private static void type() {
        promise(20, "`value`: 0 to 127");
        range(0, 127, BoundaryCallsTest::fresh, (x, v) -> x.type(v));
        promise(20, "Returns the length of the script.");
        QuotaOverlay x = fresh();
        for (int length = 1; length <= 120; length++) {
            due("type()", x.type(length), length);
        }
        promise(20, "Throws `IllegalStateException` if the script has 120 bytes");
        refused(x, "the 121st byte", STATE, () -> x.type(0));
        refused(x, "the 121st byte, again", STATE, () -> x.type(32));
        due("the bytes stay", x.clearScript(), 120);
    }

    private static void clearScript() {
        promise(21, "Returns the length that it had.");
        QuotaOverlay x = fresh();
        due("an empty script", x.clearScript(), 0);
        x.type(0);
        due("one byte", x.clearScript(), 1);
        write(x, " ".repeat(120));
        due("a full script", x.clearScript(), 120);
        due("an empty script again", x.clearScript(), 0);
        x.tick(1);
        write(x, "tick 9;");
        due("old bytes behind a shorter script do not count", x.clearScript() + x.type(' ') + x.run(), 8);
    }

    private static void scriptStays() {
        promise(22, "Runs the script, which stays as it is.");
        QuotaOverlay x = fresh();
        write(x, "tick 2;tick");
        due("a fault", x.run(), -21);
        for (char c : " 3;".toCharArray()) {
            x.type(c);
        }
        due("it goes on where it was", x.run(), 2);
        due("and again", x.run(), 2);
        due("the time", x.overlay(1), 10);
        due("its length", x.clearScript(), 14);
    }

    private static void sponsorsOfScripts() {
        promise(22, "In a script any sponsor, whatever its number is, counts as NONE if there are no members.");
        String[] numbers = {"0", "5", "255", "256", "99999"};
        for (String number : numbers) {
            QuotaOverlay x = fresh();
            due("sponsor " + number, runOf(x, "join 5 0 " + number + ";"), 1);
            dueMembers(x, 5);
            due("but not with members", runOf(x, "join 6 0 " + (number.equals("5") ? "6" : number) + ";"), 0);
            due("and again when all left", runOf(x, "leave 5;join 6 0 " + number + ";"), 2);
            due("also by time", runOf(x, "tick 100;join 7 0 " + number + ";"), 2);
            dueMembers(x, 7);
        }
    }

    private static void runUndoable() {
        promise(22, "Undoable, if it has no fault.");
        QuotaOverlay x = fresh();
        due("a fault", runOf(x, "tick"), -14);
        refused(x, "nothing is saved", STATE, x::undo);
        due("no fault", runOf(x, "tick 1;"), 1);
        due("a state is saved", x.undo(), 0);
        due("the time", x.overlay(1), 0);
    }

    private static void runReturns() {
        promise(22, "Returns the number of commands that were carried out; -10 minus the fault if it has one.");
        due("none of none", runOf(fresh(), ""), 0);
        due("all of 17", runOf(fresh(), "tick 1;".repeat(17)), 17);
        due("none of two", runOf(fresh(), "tick 0;tick 1;"), 0);
        due("the least fault", runOf(fresh(), ";"), -10);
        due("the greatest fault", runOf(fresh(), " ".repeat(116) + "tick"), -130);
    }

    private static void undo() {
        promise(23, "Restores the latest saved state and removes it from the undo stack.");
        QuotaOverlay x = fresh();
        x.tick(1);
        x.tick(2);
        due("undo()", x.undo(), 1);
        due("the time", x.overlay(1), 1);
        due("undo() saves nothing", x.undo(), 0);
        due("the time", x.overlay(1), 0);
        promise(23, "Throws `IllegalStateException` if the stack is empty");
        refused(x, "undo()", STATE, x::undo);
        promise(23, "Returns the number of states that are left on the stack.");
        for (int i = 0; i < 10; i++) {
            x.tick(1);
        }
        due("of three", x.undo(), 2);
        due("of two", x.undo(), 1);
        due("of one", x.undo(), 0);
    }

    /** With numbers that do not overflow, from what the other calls tell. */
    private static long digestByHand(QuotaOverlay x, int saved, int length) {
        List<Integer> values = new ArrayList<>();
        values.add(saved);
        values.add(length);
        for (int what = 0; what <= 8; what++) {
            values.add(x.overlay(what));
        }
        for (int what = 0; what <= 8; what++) {
            values.add(x.count(what));
        }
        for (int index = 0; x.memberAt(index) != NONE; index++) {
            int identity = x.memberAt(index);
            values.add(identity);
            for (int what = 1; what <= 4; what++) {
                values.add(x.member(identity, what));
            }
            for (int bucket = 0; bucket < 8; bucket++) {
                int size = 0;
                while (x.entry(identity, bucket, size, 0) != NONE) {
                    size++;
                }
                values.add(size);
                for (int i = 0; i < size; i++) {
                    values.add(x.entry(identity, bucket, i, 0));
                    values.add(x.entry(identity, bucket, i, 1));
                }
            }
        }
        BigInteger h = BigInteger.valueOf(18554);
        for (int value : values) {
            h = h.multiply(BigInteger.valueOf(31)).add(BigInteger.valueOf(value));
        }
        return h.longValue();
    }

    private static void digest() {
        promise(24, "It starts with h = 18554. For each of the following values v, in this order, h becomes 31 * h + v (long "
                + "arithmetic, overflow wraps).");
        due("a new object", fresh().digest(), digestByHand(fresh(), 0, 0));
        QuotaOverlay x = full();
        due("a full overlay", x.digest(), digestByHand(x, 3, 0));
        write(x, " ".repeat(120));
        due("a full script", x.digest(), digestByHand(x, 3, 120));
        x.undo();
        due("a state less", x.digest(), digestByHand(x, 2, 120));
        x.undo();
        x.undo();
        due("no state", x.digest(), digestByHand(x, 0, 120));
        QuotaOverlay z = ends();
        due("members at both ends", z.digest(), digestByHand(z, 3, 0));
        QuotaOverlay y = chain(8);
        y.leave(0);
        y.leave(4);
        due("an overlay with holes", y.digest(), digestByHand(y, 3, 0));
    }

    private static void digestTells() {
        promise(24, "the number of states on the undo stack, the length of the script; overlay() of 0 to 8; count() of 0 "
                + "to 8");
        QuotaOverlay x = fresh();
        long before = x.digest();
        x.type('t');
        due("a byte is seen", x.digest() != before);
        x.clearScript();
        due("the script is empty again", x.digest(), before);
        x.setQuotas(2, 8);
        due("a saved state is seen", x.digest() != before);
        x.undo();
        due("no state again", x.digest(), before);
    }

    public static void main(String[] args) {
        newObject();
        objectsApart();
        setPuzzles();
        previousBase();
        setQuotas();
        previousQuotas();
        entriesBeyondQuotas();
        tick();
        endedByTick();
        solve();
        greatNonce();
        zeros();
        zerosRange();
        join();
        joinStates();
        joinSolutions();
        entriesOfNewMembers();
        admit();
        admitStates();
        admitSponsors();
        admitAsJoin();
        leave();
        membersLeft();
        leaveTwice();
        swarm();
        swarmWraps();
        swarmPassesOver();
        swarmSponsor();
        swarmWithoutSponsor();
        swarmJoined();
        lookup();
        lookupResult();
        probe();
        probeChangesNothing();
        reach();
        reachOfOneSide();
        member();
        tablesOfOthers();
        memberAt();
        entry();
        entriesOfBuckets();
        share();
        overlay();
        count();
        nothingHappens();
        type();
        clearScript();
        scriptStays();
        sponsorsOfScripts();
        runUndoable();
        runReturns();
        undo();
        digest();
        digestTells();
        finish("boundaries of the calls");
    }
}
