/** TABLES and LOOKUPS: a test of its own for each sentence that names a boundary. */
public final class BoundaryTablesTest extends Checks {

    /** 0 has the entries 128/1, 129/2, 130/3 and 131/4 in its bucket 0, which is full; all are members. */
    private static QuotaOverlay fullBucket() {
        QuotaOverlay x = withMembers(0);
        for (int i = 0; i < 4; i++) {
            x.admit(128 + i, 1 + i, 0);
        }
        dueTable(x, 0, "0:128/1 0:129/2 0:130/3 0:131/4");
        return x;
    }

    // ---- TABLES

    private static void buckets() {
        sentence("A table has eight buckets, numbered from 0: bucket k of a member with the identity a is for "
                + "identities other than a that agree with a in exactly their k highest bits (of 8).");
        int[] owners = {0, 255, 170};
        for (int owner : owners) {
            for (int k = 0; k < 8; k++) {
                // The first and the last identity that agree in just k bits.
                int high = 255 << (8 - k) & owner;
                int flipped = (owner ^ 128 >> k) & 128 >> k;
                int[] others = {high | flipped, high | flipped | 127 >> k};
                for (int other : others) {
                    QuotaOverlay x = withMembers(owner, other);
                    dueTable(x, owner, k + ":" + other + "/0");
                    dueTable(x, other, k + ":" + owner + "/0");
                }
            }
        }
    }

    private static void bucketNumbers() {
        sentence("A table has eight buckets, numbered from 0");
        QuotaOverlay x = withMembers(0, 128, 1);
        due("bucket 0", x.entry(0, 0, 0, 0), 128);
        due("bucket 7", x.entry(0, 7, 0, 0), 1);
        refused(x, "bucket -1", ARGUMENT, () -> x.entry(0, -1, 0, 0));
        refused(x, "bucket 8", ARGUMENT, () -> x.entry(0, 8, 0, 0));
    }

    private static void mostEntries() {
        sentence("A bucket has at most 4 entries, in an order");
        QuotaOverlay x = fullBucket();
        for (int identity = 132; identity < 148; identity++) {
            x.admit(identity, 5, 0);
            due("a fourth entry", x.entry(0, 0, 3, 0) != NONE);
            due("a fifth entry", x.entry(0, 0, 4, 0), NONE);
        }
        due("entries", x.member(0, 3), 4);
    }

    private static void firstBucketQuota() {
        sentence("There are a bucket quota (1 to 4, 2 at first)");
        QuotaOverlay x = new QuotaOverlay();
        due("the bucket quota", x.overlay(5), 2);
        x.admit(0, 0, NONE);
        x.swarm(128, 1, 3, 1, 0);
        dueTable(x, 0, "0:128/1 0:129/1");
        x.setQuotas(1, 32);
        due("quota 1", x.overlay(5), 1);
        x.setQuotas(4, 32);
        due("quota 4", x.overlay(5), 4);
        refused(x, "quota 0", ARGUMENT, () -> x.setQuotas(0, 8));
        refused(x, "quota 5", ARGUMENT, () -> x.setQuotas(5, 8));
    }

    private static void firstTableQuota() {
        sentence("a table quota (1 to 32, 8 at first)");
        QuotaOverlay x = new QuotaOverlay();
        due("the table quota", x.overlay(6), 8);
        x.setPuzzles(0, 1000, 100);
        x.admit(0, 0, NONE);
        int[] two = {128, 192, 64, 96, 32, 48, 16, 24};
        for (int identity : two) {
            x.admit(identity, 1, 0);
        }
        due("eight of one origin", x.member(0, 3), 8);
        x.admit(8, 1, 0);
        due("not nine", x.member(0, 3), 8);
        x.setQuotas(2, 1);
        due("quota 1", x.overlay(6), 1);
        x.setQuotas(2, 32);
        due("quota 32", x.overlay(6), 32);
        refused(x, "quota 0", ARGUMENT, () -> x.setQuotas(2, 0));
        refused(x, "quota 33", ARGUMENT, () -> x.setQuotas(2, 33));
    }

    private static void learnedAgain() {
        sentence("if b has an entry there, it goes to the end, and gets the origin of b");
        QuotaOverlay x = fullBucket();
        // The lookup of 129 for 0 contacts 0 alone of those whose table is looked at.
        x.lookup(129, 0);
        dueTable(x, 0, "0:128/1 0:130/3 0:131/4 0:129/2");
        x.lookup(129, 0);
        dueTable(x, 0, "0:128/1 0:130/3 0:131/4 0:129/2");
        x.lookup(128, 0);
        dueTable(x, 0, "0:130/3 0:131/4 0:129/2 0:128/1");
        x.leave(131);
        x.admit(131, 7, 0);
        dueTable(x, 0, "0:130/3 0:129/2 0:128/1 0:131/7");
    }

    private static void learnedAgainInSpiteOfQuotas() {
        sentence("if b has an entry there, it goes to the end, and gets the origin of b");
        QuotaOverlay x = fullBucket();
        x.setQuotas(1, 1);
        x.leave(129);
        int refusals = x.count(5) + x.count(6) + x.count(7);
        // The bucket is full, and has one of origin 1 already: no reasons, since the entry is there.
        x.admit(129, 1, 0);
        dueTable(x, 0, "0:128/1 0:130/3 0:131/4 0:129/1");
        due("two of four have the origin", x.share(0, 1), 500);
        x.lookup(128, 0);
        dueTable(x, 0, "0:130/3 0:131/4 0:129/1 0:128/1");
        due("refusals", x.count(5) + x.count(6) + x.count(7), refusals);
    }

    private static void bucketQuotaReached() {
        sentence("BUCKET_QUOTA (1): as many entries of the bucket as the bucket quota, or more, have the origin of b");
        for (int quota = 1; quota <= 3; quota++) {
            QuotaOverlay x = open();
            x.setQuotas(quota, 32);
            x.admit(0, 0, NONE);
            for (int i = 0; i < quota; i++) {
                x.admit(128 + i * 32, 1, 0);
                due("one more entry of " + quota, x.entry(0, 0, i, 0), 128 + i * 32);
            }
            int refusals = x.count(5);
            x.admit(255, 1, 0);
            due("one too many", x.entry(0, 0, quota, 0), NONE);
            due("refusals", x.count(5) > refusals);
            due("by no other reason", x.count(6) + x.count(7), 0);
            x.admit(254, 2, 0);
            due("another origin may", x.entry(0, 0, quota, 0), 254);
            x.admit(64, 1, 0);
            due("another bucket may", x.entry(0, 1, 0, 0), 64);
        }
    }

    private static void bucketQuotaPassed() {
        sentence("BUCKET_QUOTA (1): as many entries of the bucket as the bucket quota, or more, have the origin of b");
        QuotaOverlay x = withMembers(0);
        x.swarm(128, 1, 3, 1, 0);
        dueTable(x, 0, "0:128/1 0:129/1 0:130/1");
        dueCounts(x, 4, 0, 3, 6, 0, 0, 0, 0, 3);
        x.setQuotas(2, 32);
        x.admit(192, 1, 0);
        // 0 refuses as the sponsor and when it is contacted; 192 refuses the third of the three.
        dueTable(x, 0, "0:128/1 0:129/1 0:130/1");
        dueCounts(x, 5, 0, 4, 10, 0, 3, 0, 0, 4);
    }

    private static void bucketQuotaOfFour() {
        sentence("BUCKET_QUOTA (1): as many entries of the bucket as the bucket quota, or more, have the origin of b");
        QuotaOverlay x = withMembers(0);
        x.swarm(128, 1, 4, 1, 0);
        int refusals = x.count(5);
        int first = x.entry(0, 0, 0, 0);
        x.leave(first);
        x.admit(200, 1, 0);
        due("four of the origin, the first one dead: refused", x.entry(0, 0, 0, 0), first);
        due("refusals by the bucket quota", x.count(5) > refusals);
        due("200 has no entry", !table(x, 0).contains(":200/"));
    }

    private static void originsOfEntries() {
        sentence("BUCKET_QUOTA (1): as many entries of the bucket as the bucket quota, or more, have the origin of b");
        QuotaOverlay x = fullBucket();
        x.leave(128);
        x.admit(128, 7, 131);
        x.setQuotas(1, 32);
        // The member 128 is of origin 7 now, but its entry in the table of 0 is of origin 1: that is what counts.
        dueTable(x, 0, "0:128/1 0:129/2 0:130/3 0:131/4");
        x.admit(200, 1, 0);
        dueTable(x, 0, "0:128/1 0:129/2 0:130/3 0:131/4");
        due("refusals by a full bucket", x.count(7), 0);
        x.leave(200);
        x.admit(201, 7, 0);
        dueTable(x, 0, "0:130/3 0:131/4 0:128/1 0:129/2");
        due("refusals by a full bucket", x.count(7), 2);
    }

    private static void tableQuotaReached() {
        sentence("TABLE_QUOTA (2): as many entries of the whole table as the table quota, or more, have the origin "
                + "of b");
        QuotaOverlay x = open();
        x.setQuotas(4, 2);
        x.admit(0, 0, NONE);
        x.admit(128, 1, 0);
        x.admit(64, 1, 0);
        dueTable(x, 0, "0:128/1 1:64/1");
        due("no refusal yet", x.count(5) + x.count(6) + x.count(7), 0);
        x.admit(32, 1, 0);
        dueTable(x, 0, "0:128/1 1:64/1");
        // As the sponsor and when it is contacted; 64 and 128 have one of origin 1 each.
        due("refusals by the table quota", x.count(6), 2);
        due("by no other reason", x.count(5) + x.count(7), 0);
        x.admit(16, 2, 0);
        due("another origin may", x.entry(0, 3, 0, 0), 16);
    }

    private static void tableQuotaPassed() {
        sentence("TABLE_QUOTA (2): as many entries of the whole table as the table quota, or more, have the origin "
                + "of b");
        QuotaOverlay x = open();
        x.admit(0, 0, NONE);
        x.admit(128, 1, 0);
        x.admit(64, 1, 0);
        x.admit(32, 1, 0);
        x.setQuotas(4, 2);
        int refusals = x.count(6);
        x.admit(16, 1, 0);
        dueTable(x, 0, "0:128/1 1:64/1 2:32/1");
        due("refusals by the table quota", x.count(6) > refusals);
    }

    private static void deadEntriesCount() {
        sentence("TABLE_QUOTA (2): as many entries of the whole table as the table quota, or more, have the origin "
                + "of b");
        QuotaOverlay x = open();
        x.setQuotas(4, 1);
        x.admit(0, 0, NONE);
        x.admit(128, 1, 0);
        x.leave(128);
        x.admit(64, 1, 0);
        // The lookup of 64 makes 0 known to it alone: the dead entry of 0 stays, and counts.
        dueTable(x, 0, "0:128/1");
        due("refusals by the table quota", x.count(6), 2);
        due("the bucket quota holds the origins of entries, not of members", x.count(5), 0);
    }

    private static void fullTable() {
        sentence("TABLE_QUOTA (2): as many entries of the whole table as the table quota, or more, have the origin "
                + "of b");
        QuotaOverlay x = withMembers(0);
        int[] others = {128, 160, 192, 224, 64, 80, 96, 112, 32, 40, 48, 56, 16, 20, 24, 28, 8, 10, 12, 14, 4, 5, 6};
        for (int other : others) {
            x.admit(other, 1, 0);
        }
        due("23 of one origin under a quota of 32", x.member(0, 3), 23);
        due("no refusal of 0", x.share(0, 1), 1000);
        due("not one by the table quota", x.count(6), 0);
    }

    private static void reasonsInOrder() {
        sentence("Otherwise b is refused for the first of these reasons that applies");
        // All three reasons apply for 0 when 132 of origin 1 comes.
        QuotaOverlay x = fullBucket();
        x.setQuotas(1, 1);
        int[] before = {x.count(5), x.count(6), x.count(7)};
        x.leave(129);
        x.leave(130);
        x.leave(131);
        x.admit(132, 1, 0);
        due("bucket quota", x.count(5), before[0] + 2);
        due("table quota", x.count(6), before[1]);
        due("full bucket", x.count(7), before[2]);
        dueTable(x, 0, "0:128/1 0:129/2 0:130/3 0:131/4");
    }

    private static void tableBeforeFull() {
        sentence("Otherwise b is refused for the first of these reasons that applies");
        // 0 has 64/5 in bucket 1 and a full bucket 0 of live members: the table quota for 5 comes first.
        QuotaOverlay x = fullBucket();
        x.admit(64, 5, 0);
        x.setQuotas(4, 1);
        int full = x.count(7);
        int quota = x.count(6);
        x.admit(200, 5, 0);
        dueTable(x, 0, "0:128/1 0:129/2 0:130/3 0:131/4 1:64/5");
        due("full bucket", x.count(7), full);
        due("table quota", x.count(6) >= quota + 2);
    }

    private static void bucketBeforeFull() {
        sentence("Otherwise b is refused for the first of these reasons that applies");
        QuotaOverlay x = fullBucket();
        x.setQuotas(1, 32);
        int full = x.count(7);
        x.admit(200, 2, 0);
        // The bucket would have moved its first entry to the end.
        dueTable(x, 0, "0:128/1 0:129/2 0:130/3 0:131/4");
        due("full bucket", x.count(7), full);
    }

    private static void fullOfMembers() {
        sentence("FULL_BUCKET (3): the bucket has 4 entries, and the identity of the first one is that of a member; "
                + "this entry then goes to the end");
        QuotaOverlay x = fullBucket();
        due("no refusal yet", x.count(7), 0);
        x.admit(132, 5, 0);
        // Twice: as the sponsor, and when 132 contacts it.
        dueTable(x, 0, "0:130/3 0:131/4 0:128/1 0:129/2");
        due("refusals by a full bucket", x.count(7), 2);
        due("by no other reason", x.count(5) + x.count(6), 0);
    }

    /** 40 is not the first member, its full bucket is not its first one, and its buckets beside it have entries. */
    private static QuotaOverlay fullBucketInTheMiddle() {
        QuotaOverlay x = withMembers(200, 40);
        for (int identity = 1; identity <= 4; identity++) {
            x.admit(identity, identity, 40);
        }
        x.admit(48, 6, 40);
        x.admit(49, 7, 40);
        dueTable(x, 40, "0:200/0 2:1/1 2:2/2 2:3/3 2:4/4 3:48/6 3:49/7");
        return x;
    }

    private static void fullInTheMiddle() {
        sentence("FULL_BUCKET (3): the bucket has 4 entries, and the identity of the first one is that of a member; "
                + "this entry then goes to the end");
        QuotaOverlay x = fullBucketInTheMiddle();
        int refusals = x.count(7);
        x.admit(8, 5, 40);
        dueTable(x, 40, "0:200/0 2:3/3 2:4/4 2:1/1 2:2/2 3:48/6 3:49/7");
        due("refusals by a full bucket", x.count(7), refusals + 2);
    }

    private static void fullOfOthers() {
        sentence("FULL_BUCKET (3): the bucket has 4 entries, and the identity of the first one is that of a member");
        QuotaOverlay x = fullBucket();
        x.leave(129);
        x.leave(130);
        x.leave(131);
        x.admit(192, 5, 0);
        // Only the first one, 128, is a member: refused, and at the end; then 129 is the first one and makes room.
        dueTable(x, 0, "0:130/3 0:131/4 0:128/1 0:192/5");
        due("refusals by a full bucket", x.count(7), 1);
    }

    private static void fullOfReturned() {
        sentence("FULL_BUCKET (3): the bucket has 4 entries, and the identity of the first one is that of a member; "
                + "this entry then goes to the end");
        QuotaOverlay x = fullBucket();
        x.leave(128);
        x.admit(128, 7, 131);
        dueTable(x, 0, "0:128/1 0:129/2 0:130/3 0:131/4");
        x.admit(132, 5, 0);
        // 128 is a member again; its entry, which 0 did not learn anew, keeps its origin.
        dueTable(x, 0, "0:130/3 0:131/4 0:128/1 0:129/2");
        due("refusals by a full bucket", x.count(7), 2);
    }

    private static void notFull() {
        sentence("FULL_BUCKET (3): the bucket has 4 entries");
        QuotaOverlay x = withMembers(0, 128, 129, 130);
        x.admit(131, 5, 0);
        dueTable(x, 0, "0:128/0 0:129/0 0:130/0 0:131/5");
        due("three entries are not four", x.count(7), 0);
    }

    private static void roomByTheFirst() {
        sentence("If b is not refused, it gets an entry at the end; if the bucket has 4 entries, the first one is "
                + "removed before.");
        QuotaOverlay x = fullBucket();
        x.leave(128);
        x.admit(132, 5, 0);
        dueTable(x, 0, "0:129/2 0:130/3 0:131/4 0:132/5");
        due("entries", x.member(0, 3), 4);
        due("refusals by a full bucket", x.count(7), 0);
    }

    private static void roomInTheMiddle() {
        sentence("if the bucket has 4 entries, the first one is removed before");
        QuotaOverlay x = fullBucketInTheMiddle();
        x.leave(1);
        x.admit(9, 5, 40);
        dueTable(x, 40, "0:200/0 2:2/2 2:3/3 2:4/4 2:9/5 3:48/6 3:49/7");
        due("refusals by a full bucket", x.count(7), 0);
    }

    private static void deadOnesStayWhereThereIsRoom() {
        sentence("If b is not refused, it gets an entry at the end; if the bucket has 4 entries, the first one is "
                + "removed before.");
        QuotaOverlay x = withMembers(0, 128, 129, 130);
        x.leave(128);
        x.admit(131, 5, 0);
        dueTable(x, 0, "0:128/0 0:129/0 0:130/0 0:131/5");
    }

    // ---- LOOKUPS

    private static void threeNearest() {
        sentence("The nearest entries of a table for a target x are its 3 entries (all, if it has fewer) whose "
                + "identities have the least distances to x.");
        QuotaOverlay x = fullBucket();
        x.leave(128);
        x.leave(129);
        x.leave(130);
        // The fourth entry, 131, does not become known when the three nearest are dead.
        dueProbe(x, 0, 128, 0, 3, 3, 0);
        due("its result", x.lookup(0, 128), 0);
        dueTable(x, 0, "0:131/4");
        // Next time 131 is known, and tells of the three.
        dueProbe(x, 0, 128, 131, 4, 3, 1);
    }

    private static void allIfFewer() {
        sentence("The nearest entries of a table for a target x are its 3 entries (all, if it has fewer)");
        QuotaOverlay none = withMembers(0);
        dueProbe(none, 0, 255, 0, 0, 0, 1);
        QuotaOverlay one = withMembers(0, 128);
        dueProbe(one, 0, 255, 128, 1, 0, 1);
        QuotaOverlay two = withMembers(0, 128, 64);
        two.leave(128);
        two.leave(64);
        dueProbe(two, 0, 255, 0, 2, 2, 1);
        QuotaOverlay three = withMembers(0, 128, 64, 32);
        three.leave(128);
        three.leave(64);
        three.leave(32);
        dueProbe(three, 0, 255, 0, 3, 3, 1);
    }

    private static void nearestByTarget() {
        sentence("whose identities have the least distances to x");
        QuotaOverlay x = withMembers(0);
        for (int identity = 128; identity < 131; identity++) {
            x.admit(identity, 1, 0);
            x.leave(identity);
        }
        x.admit(131, 1, 0);
        dueTable(x, 0, "0:128/1 0:129/1 0:130/1 0:131/1");
        dueTable(x, 131, "0:0/0");
        // For 131 the nearest ones are 131, 130 and 129: the dead 128 is not contacted.
        dueProbe(x, 0, 131, 131, 3, 2, 1);
        x.lookup(0, 131);
        dueTable(x, 0, "0:128/1 0:131/1");
    }

    private static void twelveSteps() {
        sentence("It goes on step by step, at most 12 steps");
        QuotaOverlay x = chain(15);
        dueProbe(x, 11, 0, 0, 11, 0, 1);
        dueProbe(x, 12, 0, 0, 12, 0, 1);
        // From 13 the twelfth contact is 1: that it tells of 0 comes too late.
        dueProbe(x, 13, 0, 1, 12, 0, 0);
        dueProbe(x, 14, 0, 2, 12, 0, 0);
        int steps = x.count(3);
        due("lookup(13, 0)", x.lookup(13, 0), 1);
        due("steps", x.count(3), steps + 12);
    }

    private static void twelveStepsWithDeadOnes() {
        sentence("Otherwise c is contacted (each contact is a step)");
        QuotaOverlay x = chain(15);
        x.leave(1);
        // A dead contact is a step too: 12, 11 and so on to 2, and the dead 1.
        dueProbe(x, 13, 0, 2, 12, 1, 0);
        dueProbe(x, 14, 0, 2, 12, 0, 0);
        dueProbe(x, 2, 0, 2, 1, 1, 0);
    }

    private static void manyKnown() {
        sentence("It goes on step by step, at most 12 steps");
        // As the chain, but each member also knows two that are gone, which are far from the target 0: every contact
        // makes three more identities known, 39 in all, and each time just one of them is near.
        QuotaOverlay x = open();
        x.setQuotas(1, 1);
        for (int identity = 0; identity <= 12; identity++) {
            x.admit(identity, 0, identity == 0 ? NONE : identity - 1);
            for (int origin = 1; origin <= 2; origin++) {
                int far = 127 + 2 * identity + origin;
                x.admit(far, origin, identity);
                x.leave(far);
            }
            due("entries", x.member(identity, 3), identity == 0 ? 2 : 3);
        }
        dueTable(x, 7, "0:142/1 0:143/2 7:6/0");
        dueProbe(x, 12, 0, 0, 12, 0, 1);
        due("lookup(12, 0)", x.lookup(12, 0), 0);
    }

    private static void threeKnown() {
        sentence("c is the known identity with the least distance to x of those among the three known identities with "
                + "the least distances to x that were not contacted yet");
        QuotaOverlay x = fullBucket();
        // 131 becomes known by 128, but is the fourth one for the target 128.
        dueProbe(x, 0, 128, 128, 3, 0, 1);
        x.lookup(0, 128);
        dueTable(x, 0, "0:131/4 0:128/1 0:129/2 0:130/3");
        // For the target 131 the nearest one is contacted first: 131, 130, 129.
        x.lookup(0, 131);
        dueTable(x, 0, "0:128/1 0:131/4 0:130/3 0:129/2");
    }

    private static void lookupEnds() {
        sentence("if there is none (all three were contacted, or all known ones if they are fewer), the lookup ends");
        QuotaOverlay x = withMembers(0, 128, 129);
        dueProbe(x, 0, 128, 128, 2, 0, 1);
        dueProbe(x, 0, 0, 0, 2, 0, 1);
        QuotaOverlay alone = withMembers(7);
        due("none known", alone.lookup(7, 200), 7);
        dueCounts(alone, 1, 0, 1, 0, 0, 0, 0, 0, 1);
    }

    private static void deadContact() {
        sentence("if it is not the identity of a member, it is not known any more, and an entry for it in the table "
                + "of a is removed, if there is one (this is a dead contact, with or without an entry)");
        QuotaOverlay x = fullBucket();
        x.leave(128);
        // With 128 gone from the known ones 131 is the third: 128, 129, 130, 131 are the steps.
        dueProbe(x, 0, 128, 129, 4, 1, 1);
        due("lookup(0, 128)", x.lookup(0, 128), 129);
        dueTable(x, 0, "0:129/2 0:130/3 0:131/4");
        due("dead contacts", x.count(4), 1);
    }

    private static void deadContactInTheMiddle() {
        sentence("and an entry for it in the table of a is removed, if there is one");
        QuotaOverlay x = fullBucketInTheMiddle();
        x.leave(2);
        // 2, then 3 and 1 (which tell of nothing nearer), then 4, the third one now: in the order of their distances.
        dueProbe(x, 40, 2, 3, 4, 1, 1);
        x.lookup(40, 2);
        dueTable(x, 40, "0:200/0 2:3/3 2:1/1 2:4/4 3:48/6 3:49/7");
        x.leave(4);
        dueProbe(x, 40, 4, 1, 4, 2, 1);
        x.lookup(40, 4);
        dueTable(x, 40, "0:200/0 2:1/1 2:3/3 3:48/6 3:49/7");
    }

    private static void deadContactWithoutEntry() {
        sentence("(this is a dead contact, with or without an entry)");
        QuotaOverlay x = chain(3);
        x.leave(0);
        // 2 has no entry for 0, but hears of it by 1, whose own entry stays.
        dueProbe(x, 2, 0, 1, 2, 1, 1);
        due("lookup(2, 0)", x.lookup(2, 0), 1);
        due("dead contacts", x.count(4), 1);
        dueTable(x, 2, "6:1/0");
        dueTable(x, 1, "7:0/0");
        due("lookup(1, 0)", x.lookup(1, 0), 1);
        due("dead contacts with an entry", x.count(4), 2);
        dueTable(x, 1, "");
    }

    private static void askerLeftOut() {
        sentence("(a, if it is one of the three, is left out)");
        QuotaOverlay x = withMembers(0, 129, 130, 131);
        x.leave(129);
        x.leave(130);
        int steps = x.count(3);
        // Of the entries of 0 the three nearest to 128 are 128 itself, 129 and 130, so that 131 stays unknown.
        due("admit(128, 0, 0)", x.admit(128, 0, 0), 1);
        dueTable(x, 128, "0:0/0");
        due("steps: 0 and two dead ones", x.count(3), steps + 3);
        due("dead contacts", x.count(4), 2);
        dueTable(x, 0, "0:129/0 0:130/0 0:131/0 0:128/0");
    }

    private static void contactedLearnsAfterwards() {
        sentence("the identities of the nearest entries of its table for x become known (a, if it is one of the three, is "
                + "left out); then that member learns a");
        QuotaOverlay x = open();
        x.setQuotas(1, 32);
        x.admit(0, 0, NONE);
        int[] others = {128, 129, 130, 132};
        for (int other : others) {
            x.admit(other, 1, other == 128 ? 0 : 128);
        }
        x.leave(129);
        x.leave(130);
        x.leave(132);
        // For their bucket of 0 has one of origin 1, 128 alone has entries for the three that left.
        dueTable(x, 0, "0:128/1");
        dueTable(x, 128, "0:0/0 5:132/1 6:130/1 7:129/1");
        int steps = x.count(3);
        // 192 contacts 0, 128 and the three: it is not in the table of 128 yet when that tells its nearest ones.
        due("admit(192, 0, 0)", x.admit(192, 0, 0), 2);
        due("steps", x.count(3), steps + 5);
        due("dead contacts", x.count(4), 3);
        dueTable(x, 128, "0:0/0 1:192/0 5:132/1 6:130/1 7:129/1");
    }

    private static void contactedLearnsFirst() {
        sentence("if it is that of a member, the identities of the nearest entries of its table for x become known "
                + "(a, if it is one of the three, is left out); then that member learns a, and then a learns it");
        QuotaOverlay x = open();
        x.setQuotas(1, 32);
        x.admit(0, 0, NONE);
        x.admit(128, 1, 0);
        x.admit(192, 1, 128);
        // 0 refuses 192 for 128; 192 learns both.
        dueTable(x, 0, "0:128/1");
        dueTable(x, 192, "0:0/0 1:128/1");
        x.leave(128);
        // 192 does not know of the place that 128 leaves until it contacts it; 0 keeps the dead entry and refuses.
        int refusals = x.count(5);
        due("lookup(192, 0)", x.lookup(192, 0), 0);
        due("refusals", x.count(5), refusals + 1);
        dueTable(x, 0, "0:128/1");
        dueTable(x, 192, "0:0/0");
        // 0 forgets the dead one by a lookup of its own; then it learns 192 when that contacts it.
        x.lookup(0, 128);
        dueTable(x, 0, "");
        due("lookup(192, 0)", x.lookup(192, 0), 0);
        dueTable(x, 0, "0:192/1");
        due("refusals", x.count(5), refusals + 1);
    }

    private static void deadStaysUnknown() {
        sentence("(An identity that was found to be dead does not become known again in the same lookup.)");
        QuotaOverlay x = fullBucket();
        x.leave(128);
        // 129, 130 and 131 all tell of 128 after it was found dead, and none of them makes a step of it.
        due("129 tells of 128", table(x, 129).contains("7:128/1"));
        due("130 tells of 128", table(x, 130).contains("6:128/1"));
        due("131 tells of 128", table(x, 131).contains("6:128/1"));
        dueProbe(x, 0, 128, 129, 4, 1, 1);
        x.lookup(0, 128);
        due("dead contacts", x.count(4), 1);
        // In another lookup it may become known again.
        dueProbe(x, 0, 128, 129, 4, 1, 1);
    }

    private static void results() {
        sentence("The result of a lookup is the member with the least distance to x among a and all members that were "
                + "contacted.");
        QuotaOverlay x = withMembers(0, 128);
        due("a itself", x.lookup(0, 0), 0);
        due("a itself, not just at x", x.lookup(0, 127), 0);
        due("the contacted one", x.lookup(0, 255), 128);
        x.leave(128);
        due("no dead one", x.lookup(0, 128), 0);
    }

    private static void hits() {
        sentence("It is a hit if no member has a lesser distance to x.");
        QuotaOverlay x = chain(15);
        dueProbe(x, 12, 0, 0, 12, 0, 1);
        dueProbe(x, 13, 0, 1, 12, 0, 0);
        int hits = x.count(8);
        x.lookup(13, 0);
        due("no hit", x.count(8), hits);
        x.lookup(12, 0);
        due("a hit", x.count(8), hits + 1);
        x.leave(0);
        due("1 is the nearest one now", x.probe(13, 0, 3), 1);
    }

    public static void main(String[] args) {
        buckets();
        bucketNumbers();
        mostEntries();
        firstBucketQuota();
        firstTableQuota();
        learnedAgain();
        learnedAgainInSpiteOfQuotas();
        bucketQuotaReached();
        bucketQuotaPassed();
        bucketQuotaOfFour();
        originsOfEntries();
        tableQuotaReached();
        tableQuotaPassed();
        deadEntriesCount();
        fullTable();
        reasonsInOrder();
        tableBeforeFull();
        bucketBeforeFull();
        fullOfMembers();
        fullInTheMiddle();
        fullOfOthers();
        fullOfReturned();
        notFull();
        roomByTheFirst();
        roomInTheMiddle();
        deadOnesStayWhereThereIsRoom();
        threeNearest();
        allIfFewer();
        nearestByTarget();
        twelveSteps();
        twelveStepsWithDeadOnes();
        manyKnown();
        threeKnown();
        lookupEnds();
        deadContact();
        deadContactInTheMiddle();
        deadContactWithoutEntry();
        askerLeftOut();
        contactedLearnsAfterwards();
        contactedLearnsFirst();
        deadStaysUnknown();
        results();
        hits();
        finish("boundaries of tables and lookups");
    }
}
