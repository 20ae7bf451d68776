/** MEMBERS, PUZZLES and ADMISSION: a test of its own for each sentence that names a boundary. */
public final class BoundaryMembersTest extends Checks {

    // ---- MEMBERS

    private static void identities() {
        sentence("Identities are the numbers from 0 to 255");
        QuotaOverlay x = open();
        due("0 joins", x.admit(0, 0, NONE), 0);
        due("255 joins", x.admit(255, 0, 0), 1);
        dueMembers(x, 0, 255);
        refused(x, "-1 joins", ARGUMENT, () -> x.admit(-1, 0, 0));
        refused(x, "256 joins", ARGUMENT, () -> x.admit(256, 0, 0));
    }

    private static void distances() {
        sentence("the distance of two identities is their exclusive or");
        QuotaOverlay x = withMembers(0, 127, 255);
        // As numbers 127 is nearest to 128, but its exclusive or is the greatest that there is.
        due("nearest to 128", x.lookup(0, 128), 255);
        due("nearest to 127", x.lookup(0, 127), 127);
        due("nearest to 126", x.lookup(255, 126), 127);
        due("nearest to 63", x.lookup(255, 63), 0);
    }

    private static void mostMembers() {
        sentence("There are at most 24 members at a time");
        QuotaOverlay x = withMembers(0);
        x.swarm(10, 10, 16, 1, 0);
        due("up to 23 members", x.swarm(170, 10, 6, 1, 0), 6);
        due("23 members", x.overlay(0), 23);
        accepted("the 24th member", () -> x.admit(255, 2, 0));
        due("24 members", x.overlay(0), 24);
        refused(x, "admit() of a 25th", STATE, () -> x.admit(254, 2, 0));
        refused(x, "join() of a 25th", STATE, () -> x.join(254, 2, 0, 0));
        due("swarm() of a 25th", x.swarm(254, 1, 1, 2, 0), 0);
        due("a script's 25th", runOf(x, "tick 1;join 254 2 0;tick 1;"), 1);
        due("24 members", x.overlay(0), 24);
    }

    private static void membersAtATime() {
        sentence("There are at most 24 members at a time");
        QuotaOverlay x = full();
        x.leave(230);
        accepted("one for another that left", () -> x.admit(254, 2, 0));
        refused(x, "one more", STATE, () -> x.admit(253, 2, 0));
        x.tick(500);
        due("all ended", x.tick(500), 24);
        due("the first of new ones", x.admit(0, 0, NONE), 0);
        due("more", x.swarm(100, 1, 16, 0, 0) + x.swarm(200, 1, 8, 0, 0), 23);
        due("24 again, 48 in all and one", x.overlay(0) + 100 * x.count(0), 4924);
    }

    private static void origins() {
        sentence("each with an identity, an origin (0 to 7), the time of its admission, and a table");
        QuotaOverlay x = open();
        x.admit(5, 0, NONE);
        x.tick(4);
        x.admit(6, 7, 5);
        due("the least origin", x.member(5, 1), 0);
        due("the greatest origin", x.member(6, 1), 7);
        due("admitted at 0", x.member(5, 2), 0);
        due("admitted at 4", x.member(6, 2), 4);
        dueTable(x, 5, "6:6/7");
        dueTable(x, 6, "6:5/0");
        refused(x, "origin -1", ARGUMENT, () -> x.admit(7, -1, 5));
        refused(x, "origin 8", ARGUMENT, () -> x.admit(7, 8, 5));
    }

    private static void sameIdentity() {
        sentence("No two members have the same identity.");
        QuotaOverlay x = withMembers(9, 200);
        refused(x, "admit() once more", STATE, () -> x.admit(9, 1, 200));
        refused(x, "join() once more", STATE, () -> x.join(200, 1, 0, 9));
        due("swarm() once more", x.swarm(9, 1, 1, 1, 200), 0);
        due("a script once more", runOf(x, "join 9 1 200;"), 0);
        x.leave(9);
        accepted("after it left", () -> x.admit(9, 1, 200));
        dueMembers(x, 9, 200);
        due("with its new origin", x.member(9, 1), 1);
    }

    private static void firstTime() {
        sentence("The time is 0 at first.");
        QuotaOverlay x = new QuotaOverlay();
        due("the time", x.overlay(1), 0);
        x.admit(1, 0, NONE);
        due("the time of the first admission", x.member(1, 2), 0);
        due("the time does not pass by calls", x.overlay(1), 0);
    }

    private static void firstLife() {
        sentence("There are a life (10 to 1000 ticks, 100 at first)");
        QuotaOverlay x = new QuotaOverlay();
        due("the life", x.overlay(7), 100);
        x.admit(1, 0, NONE);
        due("nobody ends at 99", x.tick(99), 0);
        due("one ends at 100", x.tick(1), 1);
    }

    private static void shortestLife() {
        sentence("There are a life (10 to 1000 ticks, 100 at first)");
        QuotaOverlay x = new QuotaOverlay();
        x.setPuzzles(0, 10, 20);
        x.admit(1, 0, NONE);
        due("nobody ends at 9", x.tick(9), 0);
        due("one ends at 10", x.tick(1), 1);
        refused(x, "life 9", ARGUMENT, () -> x.setPuzzles(0, 9, 20));
    }

    private static void longestLife() {
        sentence("There are a life (10 to 1000 ticks, 100 at first)");
        QuotaOverlay x = new QuotaOverlay();
        x.setPuzzles(0, 1000, 20);
        x.admit(1, 0, NONE);
        due("nobody ends at 500", x.tick(500), 0);
        due("nobody ends at 999", x.tick(499), 0);
        due("one ends at 1000", x.tick(1), 1);
        refused(x, "life 1001", ARGUMENT, () -> x.setPuzzles(0, 1001, 20));
    }

    private static void epochs() {
        sentence("the epoch is floor(time / (epoch length))");
        QuotaOverlay x = new QuotaOverlay();
        int[][] steps = {{19, 0}, {1, 1}, {19, 1}, {1, 2}, {460, 25}, {499, 49}, {1, 50}};
        for (int[] step : steps) {
            x.tick(step[0]);
            due("the epoch at " + x.overlay(1), x.overlay(2), step[1]);
        }
    }

    private static void epochLengths() {
        sentence("an epoch length (5 to 100 ticks, 20 at first)");
        QuotaOverlay x = new QuotaOverlay();
        x.setPuzzles(2, 100, 5);
        x.tick(4);
        due("length 5 at 4", x.overlay(2), 0);
        x.tick(1);
        due("length 5 at 5", x.overlay(2), 1);
        x.setPuzzles(2, 100, 100);
        due("length 100 at 5", x.overlay(2), 0);
        x.tick(94);
        due("length 100 at 99", x.overlay(2), 0);
        x.tick(1);
        due("length 100 at 100", x.overlay(2), 1);
        refused(x, "epoch length 4", ARGUMENT, () -> x.setPuzzles(2, 100, 4));
        refused(x, "epoch length 101", ARGUMENT, () -> x.setPuzzles(2, 100, 101));
        QuotaOverlay y = new QuotaOverlay();
        y.tick(19);
        due("length 20 at 19", y.overlay(2), 0);
        y.tick(1);
        due("length 20 at 20", y.overlay(2), 1);
    }

    private static void endings() {
        sentence("When time passes, all members with (time of admission) + life not greater than the new time are no "
                + "members any more");
        QuotaOverlay x = new QuotaOverlay();
        x.setPuzzles(0, 10, 100);
        x.admit(1, 0, NONE);
        x.tick(1);
        x.admit(2, 0, 1);
        x.admit(3, 0, 1);
        x.tick(1);
        x.admit(4, 0, 1);
        due("less than the life", x.tick(7), 0);
        dueMembers(x, 1, 2, 3, 4);
        due("just the life", x.tick(1), 1);
        dueMembers(x, 2, 3, 4);
        due("just the life of two", x.tick(1), 2);
        dueMembers(x, 4);
        due("more than the life", x.tick(500), 1);
        dueMembers(x);
        due("ended identities", x.count(1), 4);
    }

    private static void shorterLife() {
        sentence("When time passes, all members with (time of admission) + life not greater than the new time are no "
                + "members any more");
        QuotaOverlay x = withMembers(1, 2);
        x.tick(50);
        x.setPuzzles(0, 50, 100);
        due("no time passes by setPuzzles()", x.overlay(0), 2);
        due("with the next tick", x.tick(1), 2);
        QuotaOverlay y = new QuotaOverlay();
        y.admit(1, 0, NONE);
        y.tick(99);
        y.setPuzzles(0, 101, 100);
        due("a longer life counts for members too", y.tick(1), 0);
        due("until it ends", y.tick(1), 1);
    }

    private static void endedTables() {
        sentence("their tables are gone");
        QuotaOverlay x = new QuotaOverlay();
        x.setPuzzles(0, 10, 100);
        x.admit(1, 0, NONE);
        x.tick(5);
        x.admit(2, 0, 1);
        x.admit(3, 0, 1);
        due("tables with 3", x.member(3, 4), 2);
        x.tick(5);
        due("the table of 1 does not count", x.member(3, 4), 1);
        refused(x, "its entries are gone", STATE, () -> x.entry(1, 6, 0, 0));
        x.tick(10);
        due("it joins with an empty table", x.admit(1, 0, NONE), 0);
        dueTable(x, 1, "");
    }

    private static void entriesStay() {
        sentence("(Entries for them in tables of others stay.)");
        QuotaOverlay x = new QuotaOverlay();
        x.setPuzzles(0, 10, 100);
        x.admit(1, 3, NONE);
        x.tick(5);
        x.admit(2, 0, 1);
        due("1 ends", x.tick(5), 1);
        dueTable(x, 2, "6:1/3");
        due("its share stays", x.share(2, 3), 1000);
    }

    // ---- PUZZLES

    private static void difficulties() {
        sentence("The difficulty is base + floor(a / 4)");
        QuotaOverlay x = open();
        int[] due = {0, 0, 0, 0, 1, 1, 1, 1, 2, 2, 2, 2, 3};
        for (int admissions = 0; admissions < due.length; admissions++) {
            due("admissions", x.overlay(4), admissions);
            due("the difficulty after " + admissions, x.overlay(3), due[admissions]);
            x.admit(admissions, 0, admissions == 0 ? NONE : 0);
        }
        x.setPuzzles(3, 1000, 100);
        due("with base 3 after 13", x.overlay(3), 6);
        x.leave(0);
        due("those who left count too", x.overlay(4), 13);
    }

    private static void bases() {
        sentence("where base is from 0 to 6 (2 at first)");
        QuotaOverlay x = new QuotaOverlay();
        due("the difficulty at first", x.overlay(3), 2);
        due("the base at first", x.setPuzzles(0, 100, 20), 2);
        due("base 0", x.overlay(3), 0);
        due("the base before", x.setPuzzles(6, 100, 20), 0);
        due("base 6", x.overlay(3), 6);
        refused(x, "base -1", ARGUMENT, () -> x.setPuzzles(-1, 100, 20));
        refused(x, "base 7", ARGUMENT, () -> x.setPuzzles(7, 100, 20));
    }

    private static void countedAnewByTime() {
        sentence("(counted anew whenever the number of the epoch changes, by time or by setPuzzles())");
        QuotaOverlay x = new QuotaOverlay();
        x.admit(1, 0, NONE);
        x.swarm(2, 1, 4, 0, 1);
        x.tick(19);
        due("in the last tick of the epoch", x.overlay(4), 5);
        due("its difficulty", x.overlay(3), 3);
        x.tick(1);
        due("in the next epoch", x.overlay(4), 0);
        due("its difficulty", x.overlay(3), 2);
        x.admit(9, 0, 1);
        due("one in it", x.overlay(4), 1);
        x.tick(60);
        due("three epochs later", x.overlay(4), 0);
        due("in all", x.count(0), 6);
    }

    private static void countedAnewBySettings() {
        sentence("(counted anew whenever the number of the epoch changes, by time or by setPuzzles())");
        QuotaOverlay x = withMembers(1);
        x.tick(30);
        x.admit(2, 0, 1);
        x.setPuzzles(0, 1000, 31);
        due("still epoch 0", x.overlay(4), 2);
        x.setPuzzles(0, 1000, 30);
        due("epoch 1", x.overlay(4), 0);
        x.admit(3, 0, 1);
        x.setPuzzles(6, 900, 16);
        due("still epoch 1", x.overlay(4), 1);
        x.setPuzzles(0, 900, 5);
        due("epoch 6", x.overlay(4), 0);
        x.admit(4, 0, 1);
        x.setPuzzles(0, 900, 100);
        due("back in epoch 0", x.overlay(4), 0);
        due("in all", x.count(0), 4);
    }

    private static void greatestDifficulty() {
        sentence("but it is at most 12");
        QuotaOverlay x = new QuotaOverlay();
        x.setPuzzles(6, 1000, 100);
        x.admit(0, 0, NONE);
        x.swarm(1, 1, 16, 0, 0);
        due("six and six of them", x.swarm(50, 1, 6, 0, 0), 6);
        due("6 + floor(23 / 4)", x.overlay(3), 11);
        x.admit(100, 0, 0);
        due("6 + floor(24 / 4)", x.overlay(3), 12);
        for (int identity = 1; identity <= 4; identity++) {
            x.leave(identity);
            x.admit(100 + identity, 0, 0);
        }
        due("28 admissions", x.overlay(4), 28);
        due("not 6 + floor(28 / 4)", x.overlay(3), 12);
        due("a puzzle of 12", x.solve(7), smallestNonce(7, 0, 12));
    }

    private static void hashes() {
        sentence("The hash of an identity, a nonce and an epoch is computed with 32 bits (overflow wraps, shifts are "
                + "logical)");
        QuotaOverlay x = new QuotaOverlay();
        int[] identities = {0, 1, 2, 127, 128, 254, 255};
        int[] nonces = {0, 1, 53023, 99998, 99999};
        int[] epochs = {0, 1, 31094, 31095, 62183, 1 << 30, Integer.MAX_VALUE - 1, Integer.MAX_VALUE};
        for (int identity : identities) {
            for (int nonce : nonces) {
                for (int epoch : epochs) {
                    due("zeros(" + identity + ", " + nonce + ", " + epoch + ")",
                            x.zeros(identity, nonce, epoch), zerosByHand(identity, nonce, epoch));
                }
            }
        }
    }

    /** The first nonce whose hash has just so many zeros. */
    private static int nonceWith(int identity, int epoch, int zeros) {
        for (int nonce = 0; nonce <= 99999; nonce++) {
            if (zerosByHand(identity, nonce, epoch) == zeros) {
                return nonce;
            }
        }
        throw new AssertionError("no such nonce");
    }

    private static void solvingNonces() {
        sentence("A nonce (0 to 99999) solves the puzzle of an identity in an epoch if the first bits of the hash, "
                + "from the highest one on, as many as the difficulty, are 0.");
        for (int difficulty = 1; difficulty <= 6; difficulty++) {
            QuotaOverlay x = new QuotaOverlay();
            x.setPuzzles(difficulty, 100, 20);
            x.tick(60);
            int few = nonceWith(77, 3, difficulty - 1);
            int enough = nonceWith(77, 3, difficulty);
            int more = nonceWith(77, 3, difficulty + 1);
            refused(x, "a zero too few for " + difficulty, UNSUPPORTED, () -> x.join(77, 0, few, NONE));
            accepted("just the zeros of " + difficulty, () -> x.join(77, 0, enough, NONE));
            x.undo();
            accepted("more zeros than " + difficulty, () -> x.join(77, 0, more, NONE));
        }
    }

    private static void noncesOfNoDifficulty() {
        sentence("A nonce (0 to 99999) solves the puzzle of an identity in an epoch");
        QuotaOverlay x = new QuotaOverlay();
        x.setPuzzles(0, 100, 20);
        int[] nonces = {nonceWith(77, 0, 0), nonceWith(77, 0, 1), 0, 99999};
        for (int nonce : nonces) {
            accepted("difficulty 0, nonce " + nonce, () -> x.join(77, 0, nonce, NONE));
            x.undo();
        }
        due("the first nonce solves it", x.solve(77), 0);
        refused(x, "nonce -1", ARGUMENT, () -> x.join(77, 0, -1, NONE));
        refused(x, "nonce 100000", ARGUMENT, () -> x.join(77, 0, 100000, NONE));
    }

    // ---- ADMISSION

    private static void puzzleOfThePresent() {
        sentence("To join, an identity needs a nonce that solves its puzzle in the present epoch");
        int late = 0;
        while (zerosByHand(77, late, 0) < 2 || zerosByHand(77, late, 1) >= 2) {
            late++;
        }
        int nonce = late;
        QuotaOverlay x = new QuotaOverlay();
        x.tick(19);
        accepted("in its epoch", () -> x.join(77, 0, nonce, NONE));
        x.undo();
        x.tick(1);
        refused(x, "in the next epoch", UNSUPPORTED, () -> x.join(77, 0, nonce, NONE));
        due("admit() takes one of the present", x.admit(77, 0, NONE), 0);
    }

    private static void puzzleOfTheMoment() {
        sentence("To join, an identity needs a nonce that solves its puzzle in the present epoch");
        QuotaOverlay x = withMembers(1, 2, 3);
        int nonce = nonceWith(77, 0, 0);
        accepted("the fourth of the epoch", () -> x.join(77, 0, nonce, 1));
        x.undo();
        x.admit(4, 0, 1);
        refused(x, "the fifth of the epoch", UNSUPPORTED, () -> x.join(77, 0, nonce, 1));
    }

    private static void sponsors() {
        sentence("and, if there are members, a sponsor, which is one of them");
        QuotaOverlay x = open();
        refused(x, "a sponsor where there are no members", UNSUPPORTED, () -> x.admit(1, 0, 2));
        refused(x, "itself where there are no members", UNSUPPORTED, () -> x.join(1, 0, 0, 1));
        accepted("no sponsor where there are no members", () -> x.admit(1, 0, NONE));
        refused(x, "no sponsor where there is a member", UNSUPPORTED, () -> x.admit(2, 0, NONE));
        refused(x, "one that is no member", UNSUPPORTED, () -> x.admit(2, 0, 3));
        refused(x, "itself", UNSUPPORTED, () -> x.join(2, 0, 0, 2));
        accepted("the only member", () -> x.admit(2, 0, 1));
        x.leave(1);
        refused(x, "one that left", UNSUPPORTED, () -> x.admit(3, 0, 1));
        x.leave(2);
        accepted("no sponsor after all left", () -> x.admit(3, 0, NONE));
    }

    private static void newMembers() {
        sentence("The new member has an empty table and the present time as the time of its admission; the number of "
                + "admissions in the epoch increases by 1.");
        QuotaOverlay x = open();
        x.tick(500);
        due("an empty table", x.admit(1, 0, NONE), 0);
        dueTable(x, 1, "");
        due("the time of its admission", x.member(1, 2), 500);
        due("admissions", x.overlay(4), 1);
        x.admit(2, 0, 1);
        x.leave(1);
        x.tick(3);
        due("a former member's table is not there any more", x.admit(1, 0, 2), 1);
        dueTable(x, 1, "6:2/0");
        due("the time of its second admission", x.member(1, 2), 503);
        due("admissions", x.overlay(4), 3);
    }

    private static void firstLookup() {
        sentence("If there is a sponsor, the sponsor learns the new member, the new member learns the sponsor, and "
                + "then the new member makes a lookup for its own identity.");
        QuotaOverlay x = open();
        x.admit(0, 1, NONE);
        dueCounts(x, 1, 0, 0, 0, 0, 0, 0, 0, 0);
        x.admit(192, 2, 0);
        dueTable(x, 0, "0:192/2");
        dueTable(x, 192, "0:0/1");
        dueCounts(x, 2, 0, 1, 1, 0, 0, 0, 0, 1);
        // 128 hears of 192 by its lookup for itself: two steps.
        due("admit(128, 3, 0)", x.admit(128, 3, 0), 2);
        dueTable(x, 0, "0:192/2 0:128/3");
        dueTable(x, 128, "0:0/1 1:192/2");
        dueTable(x, 192, "0:0/1 1:128/3");
        dueCounts(x, 3, 0, 2, 3, 0, 0, 0, 0, 2);
    }

    private static void refusedBySponsor() {
        sentence("If there is a sponsor, the sponsor learns the new member, the new member learns the sponsor");
        QuotaOverlay x = chain(3);
        // 1 has its one entry, so that it refuses 2: as its sponsor, and when 2 contacts it; 0 does so too.
        dueTable(x, 1, "7:0/0");
        dueTable(x, 2, "6:1/0");
        due("tables with 2", x.member(2, 4), 0);
        due("refusals by quotas", x.count(5) + x.count(6), 4);
    }

    public static void main(String[] args) {
        identities();
        distances();
        mostMembers();
        membersAtATime();
        origins();
        sameIdentity();
        firstTime();
        firstLife();
        shortestLife();
        longestLife();
        epochs();
        epochLengths();
        endings();
        shorterLife();
        endedTables();
        entriesStay();
        difficulties();
        bases();
        countedAnewByTime();
        countedAnewBySettings();
        greatestDifficulty();
        hashes();
        solvingNonces();
        noncesOfNoDifficulty();
        puzzleOfThePresent();
        puzzleOfTheMoment();
        sponsors();
        newMembers();
        firstLookup();
        refusedBySponsor();
        finish("boundaries of members, puzzles and admission");
    }
}
