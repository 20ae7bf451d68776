/** For each promise ordinary inputs, the edges that the document names, and wrong inputs. */
public final class PromiseTest extends Checks {
    private static void newObject() {
        subject("promise 1");
        QuotaOverlay x = new QuotaOverlay();
        dueOverlay(x, 0, 0, 0, 2, 0, 2, 8, 100, 0);
        dueCounts(x, 0, 0, 0, 0, 0, 0, 0, 0, 0);
        due("memberAt(0)", x.memberAt(0), NONE);
        due("clearScript()", x.clearScript(), 0);
        refused(x, "undo()", STATE, x::undo);
        due("NONE", QuotaOverlay.NONE, -1);
        due("the base", x.setPuzzles(0, 10, 5), 2);
        x.undo();
        due("epoch length 20", x.tick(19) + x.overlay(2), 0);
        x.tick(1);
        due("epoch length 20", x.overlay(2), 1);
        due("another object is not touched", new QuotaOverlay().overlay(1), 0);
    }

    private static void setPuzzles() {
        subject("promise 2");
        QuotaOverlay x = new QuotaOverlay();
        due("setPuzzles(6, 1000, 100)", x.setPuzzles(6, 1000, 100), 2);
        due("setPuzzles(0, 10, 5)", x.setPuzzles(0, 10, 5), 6);
        due("life", x.overlay(7), 10);
        refused(x, "base -1", ARGUMENT, () -> x.setPuzzles(-1, 10, 5));
        refused(x, "base 7", ARGUMENT, () -> x.setPuzzles(7, 10, 5));
        refused(x, "life 9", ARGUMENT, () -> x.setPuzzles(0, 9, 5));
        refused(x, "life 1001", ARGUMENT, () -> x.setPuzzles(0, 1001, 5));
        refused(x, "epoch 4", ARGUMENT, () -> x.setPuzzles(0, 10, 4));
        refused(x, "epoch 101", ARGUMENT, () -> x.setPuzzles(0, 10, 101));
        undoable(x, "setPuzzles", () -> x.setPuzzles(3, 20, 30));

        QuotaOverlay y = withMembers(1, 2);
        y.tick(10);
        y.setPuzzles(1, 1000, 11);
        due("admissions in the same epoch", y.overlay(4), 2);
        y.setPuzzles(1, 1000, 10);
        due("epoch", y.overlay(2), 1);
        due("admissions in another epoch", y.overlay(4), 0);
        y.setPuzzles(1, 10, 10);
        due("a shorter life ends nobody at once", y.overlay(0), 2);
        due("but as soon as time passes", y.tick(1), 2);
    }

    private static void setQuotas() {
        subject("promise 3");
        QuotaOverlay x = new QuotaOverlay();
        due("setQuotas(4, 32)", x.setQuotas(4, 32), 82);
        due("setQuotas(1, 1)", x.setQuotas(1, 1), 324);
        dueOverlay(x, 0, 0, 0, 2, 0, 1, 1);
        refused(x, "bucket 0", ARGUMENT, () -> x.setQuotas(0, 1));
        refused(x, "bucket 5", ARGUMENT, () -> x.setQuotas(5, 1));
        refused(x, "table 0", ARGUMENT, () -> x.setQuotas(1, 0));
        refused(x, "table 33", ARGUMENT, () -> x.setQuotas(1, 33));
        undoable(x, "setQuotas", () -> x.setQuotas(2, 2));

        QuotaOverlay y = withMembers(0, 128, 129, 130);
        y.setQuotas(1, 1);
        dueTable(y, 0, "0:128/0 0:129/0 0:130/0");
        y.admit(64, 0, 128);
        due("now refused for the table", y.count(6) > 0 ? 1 : 0, 1);
    }

    private static void tick() {
        subject("promise 4");
        QuotaOverlay x = new QuotaOverlay();
        x.admit(5, 0, NONE);
        due("tick(19)", x.tick(19), 0);
        due("admissions", x.overlay(4), 1);
        x.admit(6, 1, 5);
        due("tick(1)", x.tick(1), 0);
        dueOverlay(x, 2, 20, 1, 2, 0);
        due("tick(79)", x.tick(79), 0);
        due("tick(1)", x.tick(1), 1);
        due("5 has ended", x.member(5, 0), 0);
        dueTable(x, 6, "6:5/0");
        due("count(1)", x.count(1), 1);
        undoable(x, "tick", () -> x.tick(500));
        due("tick(500)", x.tick(500), 1);
        due("time", x.overlay(1), 600);
        refused(x, "tick(0)", ARGUMENT, () -> x.tick(0));
        refused(x, "tick(501)", ARGUMENT, () -> x.tick(501));
        refused(x, "tick(-1)", ARGUMENT, () -> x.tick(-1));
    }

    private static void solve() {
        subject("promise 5");
        QuotaOverlay x = new QuotaOverlay();
        due("solve(5)", x.solve(5), 7);
        due("solve(0)", x.solve(0), 0);
        long before = x.digest();
        for (int identity = 0; identity < 256; identity += 5) {
            due("solve(" + identity + ")", x.solve(identity), smallestNonce(identity, 0, 2));
        }
        due("solve changes nothing", x.digest(), before);
        x.setPuzzles(6, 100, 5);
        x.tick(37);
        for (int identity = 1; identity < 256; identity += 50) {
            due("solve(" + identity + ")", x.solve(identity), smallestNonce(identity, 7, 6));
        }
        x.admit(0, 0, NONE);
        x.swarm(1, 1, 16, 0, 0);
        x.swarm(100, 1, 16, 0, 0);
        due("difficulty 6 + 24 / 4", x.overlay(3), 12);
        x.leave(0);
        x.admit(0, 0, 1);
        due("difficulty", x.overlay(3), 12);
        for (int identity = 3; identity < 256; identity += 84) {
            due("solve(" + identity + ")", x.solve(identity), smallestNonce(identity, 7, 12));
        }
        refused(x, "solve(-1)", ARGUMENT, () -> x.solve(-1));
        refused(x, "solve(256)", ARGUMENT, () -> x.solve(256));
    }

    private static void zeros() {
        subject("promise 6");
        QuotaOverlay x = new QuotaOverlay();
        due("zeros(0, 0, 0)", x.zeros(0, 0, 0), 32);
        due("zeros(5, 0, 0)", x.zeros(5, 0, 0), 0);
        due("zeros(255, 99999, 7)", x.zeros(255, 99999, 7), 1);
        int max = Integer.MAX_VALUE;
        due("zeros(255, 99999, max)", x.zeros(255, 99999, max), zerosByHand(255, 99999, max));
        for (int i = 0; i < 500; i++) {
            int identity = i * 37 % 256;
            int nonce = i * 7919 % 100000;
            due("zeros(" + identity + ", " + nonce + ", " + i + ")",
                    x.zeros(identity, nonce, i), zerosByHand(identity, nonce, i));
        }
        refused(x, "identity -1", ARGUMENT, () -> x.zeros(-1, 0, 0));
        refused(x, "identity 256", ARGUMENT, () -> x.zeros(256, 0, 0));
        refused(x, "nonce -1", ARGUMENT, () -> x.zeros(0, -1, 0));
        refused(x, "nonce 100000", ARGUMENT, () -> x.zeros(0, 100000, 0));
        refused(x, "epoch -1", ARGUMENT, () -> x.zeros(0, 0, -1));
    }

    private static void join() {
        subject("promise 7");
        QuotaOverlay x = new QuotaOverlay();
        refused(x, "a nonce that does not solve", UNSUPPORTED, () -> x.join(5, 0, 0, NONE));
        refused(x, "a sponsor without members", UNSUPPORTED, () -> x.join(5, 0, 7, 5));
        due("join(5, 0, 7, NONE)", x.join(5, 0, 7, NONE), 0);
        due("no lookup without a sponsor", x.count(2), 0);
        x.setPuzzles(0, 100, 20);
        due("any nonce of difficulty 0", x.join(7, 3, 99999, 5), 1);
        dueTable(x, 5, "6:7/3");
        dueTable(x, 7, "6:5/0");
        dueOverlay(x, 2, 0, 0, 0, 2);
        dueCounts(x, 2, 0, 1, 1, 0, 0, 0, 0, 1);
        due("time of admission", x.tick(3) + x.join(4, 7, 1, 7) + x.member(4, 2), 5);
        dueTable(x, 4, "6:7/3 7:5/0");
        undoable(x, "join", () -> x.join(200, 0, 1, 5));
        refused(x, "identity -1", ARGUMENT, () -> x.join(-1, 0, 0, 5));
        refused(x, "identity 256", ARGUMENT, () -> x.join(256, 0, 0, 5));
        refused(x, "origin -1", ARGUMENT, () -> x.join(9, -1, 0, 5));
        refused(x, "origin 8", ARGUMENT, () -> x.join(9, 8, 0, 5));
        refused(x, "nonce -1", ARGUMENT, () -> x.join(9, 0, -1, 5));
        refused(x, "nonce 100000", ARGUMENT, () -> x.join(9, 0, 100000, 5));
        refused(x, "sponsor -2", ARGUMENT, () -> x.join(9, 0, 0, -2));
        refused(x, "sponsor 256", ARGUMENT, () -> x.join(9, 0, 0, 256));
        refused(x, "a member and a wrong nonce", ARGUMENT, () -> x.join(5, 0, 100000, NONE));
        refused(x, "a member already", STATE, () -> x.join(5, 0, 0, NONE));
        refused(x, "no sponsor", UNSUPPORTED, () -> x.join(9, 0, 0, NONE));
        refused(x, "a sponsor that is no member", UNSUPPORTED, () -> x.join(9, 0, 0, 10));
        refused(x, "its own sponsor", UNSUPPORTED, () -> x.join(9, 0, 0, 9));
        x.swarm(100, 1, 16, 0, 5);
        x.swarm(130, 1, 16, 0, 5);
        due("24 members", x.overlay(0), 24);
        refused(x, "a 25th member", STATE, () -> x.join(9, 0, 0, 10));
    }

    private static void admit() {
        subject("promise 8");
        QuotaOverlay x = new QuotaOverlay();
        refused(x, "a sponsor without members", UNSUPPORTED, () -> x.admit(5, 0, 5));
        due("admit(5, 0, NONE)", x.admit(5, 0, NONE), 0);
        due("admit(200, 1, 5)", x.admit(200, 1, 5), 1);
        due("admit(4, 0, 5)", x.admit(4, 0, 5), 2);
        due("admit(7, 0, 200)", x.admit(7, 0, 200), 3);
        due("difficulty", x.overlay(3), 3);
        due("admissions", x.count(0), 4);
        undoable(x, "admit", () -> x.admit(255, 7, 200));
        refused(x, "identity -1", ARGUMENT, () -> x.admit(-1, 0, 5));
        refused(x, "identity 256", ARGUMENT, () -> x.admit(256, 0, 5));
        refused(x, "origin -1", ARGUMENT, () -> x.admit(9, -1, 5));
        refused(x, "origin 8", ARGUMENT, () -> x.admit(9, 8, 5));
        refused(x, "sponsor -2", ARGUMENT, () -> x.admit(5, 0, -2));
        refused(x, "sponsor 256", ARGUMENT, () -> x.admit(5, 0, 256));
        refused(x, "a member already", STATE, () -> x.admit(5, 0, NONE));
        refused(x, "no sponsor", UNSUPPORTED, () -> x.admit(9, 0, NONE));
        refused(x, "a sponsor that is no member", UNSUPPORTED, () -> x.admit(9, 0, 10));
        x.swarm(100, 1, 16, 0, 5);
        x.swarm(130, 1, 16, 0, 5);
        refused(x, "a 25th member", STATE, () -> x.admit(9, 0, 10));
        due("admissions", x.overlay(4), 24);
        x.leave(100);
        due("a place is free again", x.admit(9, 0, 5) > 0 ? 1 : 0, 1);
    }

    private static void leave() {
        subject("promise 9");
        QuotaOverlay x = withMembers(0, 128, 129);
        undoable(x, "leave", () -> x.leave(128));
        due("leave(128)", x.leave(128), 2);
        due("member(128, 0)", x.member(128, 0), 0);
        due("count(1)", x.count(1), 1);
        due("admissions stay", x.overlay(4), 3);
        dueTable(x, 0, "0:128/0 0:129/0");
        refused(x, "leave(128) again", STATE, () -> x.leave(128));
        refused(x, "leave(-1)", ARGUMENT, () -> x.leave(-1));
        refused(x, "leave(256)", ARGUMENT, () -> x.leave(256));
        x.leave(0);
        due("leave(129)", x.leave(129), 0);
        due("the next one needs no sponsor", x.admit(128, 5, NONE), 0);
    }

    private static void swarm() {
        subject("promise 10");
        QuotaOverlay x = withMembers(250, 4);
        due("swarm(246, 4, 5, 3, 250)", x.swarm(246, 4, 5, 3, 250), 4);
        int[] members = {2, 4, 6, 246, 250, 254, NONE};
        for (int i = 0; i < members.length; i++) {
            due("memberAt(" + i + ")", x.memberAt(i), members[i]);
        }
        due("origin", x.member(254, 1), 3);
        due("admissions", x.overlay(4), 6);
        undoable(x, "swarm", () -> x.swarm(0, 1, 16, 7, 2));
        undoable(x, "swarm of nobody", () -> x.swarm(2, 128, 1, 7, 2));
        due("the same identities again and again", x.swarm(10, 128, 16, 1, 2), 2);
        due("24 members are enough", x.swarm(20, 1, 16, 1, 2) + x.swarm(50, 1, 16, 1, 2), 16);
        due("nobody joins", x.swarm(100, 255, 16, 1, 2), 0);
        refused(x, "first -1", ARGUMENT, () -> x.swarm(-1, 1, 1, 0, 2));
        refused(x, "first 256", ARGUMENT, () -> x.swarm(256, 1, 1, 0, 2));
        refused(x, "step 0", ARGUMENT, () -> x.swarm(0, 0, 1, 0, 2));
        refused(x, "step 256", ARGUMENT, () -> x.swarm(0, 256, 1, 0, 2));
        refused(x, "many 0", ARGUMENT, () -> x.swarm(0, 1, 0, 0, 2));
        refused(x, "many 17", ARGUMENT, () -> x.swarm(0, 1, 17, 0, 2));
        refused(x, "origin -1", ARGUMENT, () -> x.swarm(0, 1, 1, -1, 2));
        refused(x, "origin 8", ARGUMENT, () -> x.swarm(0, 1, 1, 8, 0));
        refused(x, "sponsor NONE", ARGUMENT, () -> x.swarm(0, 1, 1, 0, NONE));
        refused(x, "sponsor 256", ARGUMENT, () -> x.swarm(0, 1, 1, 0, 256));
        refused(x, "a sponsor that is no member", STATE, () -> x.swarm(0, 1, 1, 0, 0));
    }

    private static void lookup() {
        subject("promise 11");
        QuotaOverlay x = withMembers(0, 128, 129, 64);
        due("lookup(128, 65)", x.lookup(128, 65), 64);
        due("lookup(128, 128)", x.lookup(128, 128), 128);
        undoable(x, "lookup", () -> x.lookup(129, 64));
        int before = x.count(4);
        x.leave(129);
        due("lookup(0, 129)", x.lookup(0, 129), 128);
        due("a dead contact", x.count(4), before + 1);
        dueTable(x, 0, "0:128/0 1:64/0");
        refused(x, "from -1", ARGUMENT, () -> x.lookup(-1, 0));
        refused(x, "from 256", ARGUMENT, () -> x.lookup(256, 0));
        refused(x, "target -1", ARGUMENT, () -> x.lookup(0, -1));
        refused(x, "target 256", ARGUMENT, () -> x.lookup(1, 256));
        refused(x, "from no member", STATE, () -> x.lookup(1, 0));
        QuotaOverlay alone = withMembers(9);
        due("alone", alone.lookup(9, 200), 9);
        dueCounts(alone, 1, 0, 1, 0, 0, 0, 0, 0, 1);
    }

    /** What a member learns, and for which reason it refuses, is seen best by its lookups. */
    private static void learning() {
        subject("promise 11");
        QuotaOverlay x = new QuotaOverlay();
        x.setPuzzles(0, 1000, 100);
        x.admit(0, 0, NONE);
        x.admit(128, 1, 0);
        x.admit(129, 1, 0);
        dueTable(x, 0, "0:128/1 0:129/1");
        int refusals = x.count(5);
        x.admit(130, 1, 0);
        dueTable(x, 0, "0:128/1 0:129/1");
        due("refusals by the bucket quota", x.count(5) > refusals ? 1 : 0, 1);
        x.lookup(128, 0);
        dueTable(x, 0, "0:129/1 0:128/1");

        x.leave(129);
        x.admit(129, 6, 130);
        x.lookup(129, 0);
        dueTable(x, 0, "0:128/1 0:129/6");

        QuotaOverlay y = open();
        y.setQuotas(4, 2);
        y.admit(0, 0, NONE);
        y.admit(128, 1, 0);
        y.admit(64, 1, 0);
        int before = y.count(6);
        y.admit(32, 1, 0);
        dueTable(y, 0, "0:128/1 1:64/1");
        due("refusals by the table quota", y.count(6) > before ? 1 : 0, 1);
        y.setQuotas(1, 1);
        int bucketRefusals = y.count(5);
        y.admit(129, 1, 64);
        y.lookup(129, 0);
        due("the bucket quota comes first", y.count(5) > bucketRefusals ? 1 : 0, 1);
    }

    private static void fullBuckets() {
        subject("promise 11");
        QuotaOverlay x = withMembers(0);
        for (int identity = 128; identity < 132; identity++) {
            x.admit(identity, 0, 0);
        }
        dueTable(x, 0, "0:128/0 0:129/0 0:130/0 0:131/0");
        due("no refusal yet", x.count(7), 0);
        x.admit(200, 5, 0);
        due("refusals by full buckets", x.count(7) > 0 ? 1 : 0, 1);
        due("the bucket keeps its members", table(x, 0).contains("200") ? 1 : 0, 0);
        int first = x.entry(0, 0, 0, 0);
        x.leave(first);
        x.admit(201, 5, 0);
        due("a dead first entry makes room", table(x, 0).contains("0:201/5") ? 1 : 0, 1);
        due("and goes", table(x, 0).contains(":" + first + "/") ? 1 : 0, 0);
    }

    private static void probe() {
        subject("promise 12");
        QuotaOverlay x = withMembers(0, 128, 129, 64);
        x.leave(129);
        long before = x.digest();
        due("result", x.probe(0, 129, 0), 128);
        due("steps", x.probe(0, 129, 1), 3);
        due("dead contacts", x.probe(0, 129, 2), 1);
        due("hit", x.probe(0, 129, 3), 1);
        due("nothing changes", x.digest(), before);
        refused(x, "from -1", ARGUMENT, () -> x.probe(-1, 0, 0));
        refused(x, "from 256", ARGUMENT, () -> x.probe(256, 0, 0));
        refused(x, "target -1", ARGUMENT, () -> x.probe(1, -1, 0));
        refused(x, "target 256", ARGUMENT, () -> x.probe(1, 256, 0));
        refused(x, "what -1", ARGUMENT, () -> x.probe(1, 0, -1));
        refused(x, "what 4", ARGUMENT, () -> x.probe(1, 0, 4));
        refused(x, "from no member", STATE, () -> x.probe(1, 0, 0));
        int[] told = {x.probe(64, 200, 0), x.probe(64, 200, 1), x.probe(64, 200, 2), x.probe(64, 200, 3)};
        int[] counts = {x.count(3), x.count(4), x.count(8)};
        due("as the lookup", x.lookup(64, 200), told[0]);
        due("steps", x.count(3) - counts[0], told[1]);
        due("dead contacts", x.count(4) - counts[1], told[2]);
        due("hits", x.count(8) - counts[2], told[3]);
    }

    private static void reach() {
        subject("promise 13");
        QuotaOverlay x = withMembers(0, 128, 129, 64);
        long before = x.digest();
        due("reach(0)", x.reach(0), 256);
        due("nothing changes", x.digest(), before);
        due("reach(9) alone", withMembers(9).reach(9), 256);
        // The 64 targets that are nearest to 64 are out of reach.
        QuotaOverlay y = splitOverlay();
        due("reach(0) of three", y.reach(0), 192);
        due("a lookup that is no hit", y.probe(0, 64, 3), 0);
        due("its result", y.probe(0, 64, 0), 0);
        refused(x, "reach(-1)", ARGUMENT, () -> x.reach(-1));
        refused(x, "reach(256)", ARGUMENT, () -> x.reach(256));
        refused(x, "reach(1)", STATE, () -> x.reach(1));
    }

    /** 0 and 128 know each other, and 64 nobody but one who has gone: no table leads to it. */
    private static QuotaOverlay splitOverlay() {
        QuotaOverlay x = open();
        x.setQuotas(1, 1);
        x.admit(0, 0, NONE);
        x.admit(128, 0, 0);
        x.admit(192, 0, 128);
        x.admit(64, 0, 192);
        x.leave(192);
        dueTable(x, 0, "0:128/0");
        dueTable(x, 128, "0:0/0");
        return x;
    }

    private static void member() {
        subject("promise 14");
        QuotaOverlay x = withMembers(0, 128, 129);
        x.tick(7);
        x.admit(64, 5, 0);
        int[] want = {1, 5, 7, 3, 3};
        for (int what = 0; what <= 4; what++) {
            due("member(64, " + what + ")", x.member(64, what), want[what]);
            due("member(65, " + what + ")", x.member(65, what), what == 0 ? 0 : NONE);
        }
        x.leave(64);
        due("member(64, 4)", x.member(64, 4), NONE);
        x.leave(0);
        x.leave(128);
        x.leave(129);
        due("entries of tables that are gone", x.admit(64, 1, NONE) + x.member(64, 4), 0);
        refused(x, "identity -1", ARGUMENT, () -> x.member(-1, 0));
        refused(x, "identity 256", ARGUMENT, () -> x.member(256, 0));
        refused(x, "what -1", ARGUMENT, () -> x.member(0, -1));
        refused(x, "what 5", ARGUMENT, () -> x.member(0, 5));
    }

    private static void memberAt() {
        subject("promise 15");
        QuotaOverlay x = withMembers(200, 0, 255, 7);
        int[] want = {0, 7, 200, 255, NONE};
        for (int index = 0; index < want.length; index++) {
            due("memberAt(" + index + ")", x.memberAt(index), want[index]);
        }
        due("memberAt(max)", x.memberAt(Integer.MAX_VALUE), NONE);
        refused(x, "memberAt(-1)", ARGUMENT, () -> x.memberAt(-1));
    }

    private static void entry() {
        subject("promise 16");
        QuotaOverlay x = withMembers(170);
        for (int bucket = 0; bucket < 8; bucket++) {
            int other = 170 ^ (128 >> bucket);
            x.admit(other, bucket, 170);
            due("bucket " + bucket, x.entry(170, bucket, 0, 0), other);
            due("its origin", x.entry(170, bucket, 0, 1), bucket);
            due("no more", x.entry(170, bucket, 1, 0), NONE);
            due("no more origins", x.entry(170, bucket, Integer.MAX_VALUE, 1), NONE);
        }
        refused(x, "identity -1", ARGUMENT, () -> x.entry(-1, 0, 0, 0));
        refused(x, "identity 256", ARGUMENT, () -> x.entry(256, 0, 0, 0));
        refused(x, "bucket -1", ARGUMENT, () -> x.entry(1, -1, 0, 0));
        refused(x, "bucket 8", ARGUMENT, () -> x.entry(1, 8, 0, 0));
        refused(x, "index -1", ARGUMENT, () -> x.entry(1, 0, -1, 0));
        refused(x, "what -1", ARGUMENT, () -> x.entry(1, 0, 0, -1));
        refused(x, "what 2", ARGUMENT, () -> x.entry(1, 0, 0, 2));
        refused(x, "no member", STATE, () -> x.entry(1, 0, 0, 0));
    }

    private static void share() {
        subject("promise 17");
        QuotaOverlay x = withMembers(0);
        due("an empty table", x.share(0, 0), 0);
        x.admit(128, 3, 0);
        x.admit(64, 3, 0);
        x.admit(32, 4, 0);
        due("two of three", x.share(0, 3), 666);
        due("one of three", x.share(0, 4), 333);
        due("none of three", x.share(0, 7), 0);
        x.leave(32);
        due("dead entries count", x.share(0, 4), 333);
        refused(x, "identity -1", ARGUMENT, () -> x.share(-1, 0));
        refused(x, "identity 256", ARGUMENT, () -> x.share(256, 0));
        refused(x, "origin -1", ARGUMENT, () -> x.share(1, -1));
        refused(x, "origin 8", ARGUMENT, () -> x.share(1, 8));
        refused(x, "no member", STATE, () -> x.share(1, 0));
    }

    private static void overlay() {
        subject("promise 18");
        QuotaOverlay x = new QuotaOverlay();
        x.setPuzzles(1, 50, 7);
        x.setQuotas(3, 9);
        x.tick(22);
        x.admit(0, 7, NONE);
        x.swarm(1, 1, 3, 6, 0);
        x.swarm(100, 1, 4, 7, 0);
        dueOverlay(x, 8, 22, 3, 3, 8, 3, 9, 50, 5);
        x.tick(6);
        dueOverlay(x, 8, 28, 4, 1, 0, 3, 9, 50, 5);
        refused(x, "overlay(-1)", ARGUMENT, () -> x.overlay(-1));
        refused(x, "overlay(9)", ARGUMENT, () -> x.overlay(9));
    }

    private static void count() {
        subject("promise 19");
        QuotaOverlay x = withMembers(0, 128);
        dueCounts(x, 2, 0, 1, 1, 0, 0, 0, 0, 1);
        x.leave(128);
        x.lookup(0, 5);
        dueCounts(x, 2, 1, 2, 2, 1, 0, 0, 0, 2);
        x.probe(0, 5, 0);
        x.reach(0);
        dueCounts(x, 2, 1, 2, 2, 1, 0, 0, 0, 2);
        x.tick(500);
        x.tick(500);
        dueCounts(x, 2, 2, 2, 2, 1, 0, 0, 0, 2);
        QuotaOverlay y = splitOverlay();
        int hits = y.count(8);
        y.lookup(0, 64);
        due("no hit", y.count(8), hits);
        refused(x, "count(-1)", ARGUMENT, () -> x.count(-1));
        refused(x, "count(9)", ARGUMENT, () -> x.count(9));
    }

    private static void type() {
        subject("promise 20");
        QuotaOverlay x = new QuotaOverlay();
        due("type(0)", x.type(0), 1);
        due("type(127)", x.type(127), 2);
        refused(x, "type(-1)", ARGUMENT, () -> x.type(-1));
        refused(x, "type(128)", ARGUMENT, () -> x.type(128));
        for (int length = 3; length <= 120; length++) {
            due("type(32)", x.type(32), length);
        }
        refused(x, "type(32) of a full script", STATE, () -> x.type(32));
        refused(x, "type(128) of a full script", ARGUMENT, () -> x.type(128));
        refused(x, "nothing was saved", STATE, x::undo);
    }

    private static void clearScript() {
        subject("promise 21");
        QuotaOverlay x = new QuotaOverlay();
        x.type('x');
        x.type('y');
        due("clearScript()", x.clearScript(), 2);
        due("clearScript()", x.clearScript(), 0);
        due("an empty script has no fault", x.run(), 0);
        x.undo();
        refused(x, "nothing else was saved", STATE, x::undo);
    }

    private static void faults() {
        subject("promise 22");
        Object[][] faults = {
            {"join", 4}, {"joi", 0}, {"joinx 5", 0}, {"join5", 4}, {"join!", 4}, {"hop!", 0}, {"Join", 0},
            {" x", 1}, {"5", 0}, {";", 0}, {"tick 1;;", 7}, {"tick 1; ;", 8}, {"tick;", 4}, {"tick ;", 5},
            {"tick", 4}, {"tick ", 5}, {"tick 1", 6}, {"tick 1 ", 7}, {"tick 1 2;", 7}, {"tick 1x;", 6},
            {"tick 123456;", 10}, {"tick 000001;", 10}, {"tick -1;", 5}, {"join 1 2;", 8}, {"join 1 2 ;", 9},
            {"join 1 2 3 4;", 11}, {"look 1;", 6}, {"look 1 2 3;", 9}, {"leave 1 2;", 8}, {"leave\t1;", 5},
            {"tick 1;jo", 7}, {"tick 1;  jo;", 9}, {"tick 1;join", 11}, {"tick 1; hop", 8}, {"tickk 1;", 0},
            {"tic k 1;", 0}, {"ti", 0}, {"tick 1;" + (char) 0, 7}, {"tick 1" + (char) 127, 6}, {"look{", 4},
            {"look`", 4}, {"tick /;", 5}, {"tick :;", 5}, {"leavelook 1;", 0},
            {"xoin 1 0 1;", 0}, {"zeave 1;", 0}, {"kook 1 1;", 0}, {"pick 1;", 0}, {"tickz 1;", 0}, {"ticka 1;", 0},
        };
        for (Object[] fault : faults) {
            QuotaOverlay x = new QuotaOverlay();
            due("run of " + fault[0], runOf(x, (String) fault[0]), -10 - (Integer) fault[1]);
            due("time", x.overlay(1), 0);
            refused(x, "a faulty run is not undoable", STATE, x::undo);
        }
        QuotaOverlay x = new QuotaOverlay();
        due("17 commands", runOf(x, "tick 1;".repeat(17)), 17);
        due("17 commands and more", runOf(x, "tick 1;".repeat(17) + "t"), -129);
        due("time", x.overlay(1), 17);
    }

    private static void run() {
        subject("promise 22");
        QuotaOverlay x = new QuotaOverlay();
        due("spaces alone", runOf(x, "   "), 0);
        due("a run of nothing is undoable", x.undo(), 0);
        due("any sponsor is none", runOf(x, "join 7 7 99999;"), 1);
        due("commands", runOf(x, "  join  9 1 7  ; tick 00003;look 9 7 ;leave 7;  "), 4);
        dueOverlay(x, 1, 3, 0, 2, 2);
        dueTable(x, 9, "4:7/7");
        due("the script stays", x.clearScript(), 48);
        due("one state of a run", x.undo(), 1);
        dueOverlay(x, 1, 0, 0, 2, 1);
        due("undo()", x.undo(), 0);
        dueOverlay(x, 0, 0);

        x.admit(7, 7, NONE);
        String[] stops = {
            "tick 0;", "tick 501;", "leave 8;", "leave 256;", "look 7 256;", "look 8 7;", "look 256 7;",
            "join 7 0 7;", "join 256 0 7;", "join 9 8 7;", "join 9 0 8;", "join 9 0 256;", "join 99999 9 9;",
        };
        for (String stop : stops) {
            int time = x.overlay(1);
            due("run of " + stop, runOf(x, "tick 1;" + stop + "tick 1;"), 1);
            due("time", x.overlay(1), time + 1);
            due("members", x.overlay(0), 1);
            x.undo();
            due("time", x.overlay(1), time);
        }
        due("the first command stops", runOf(x, "leave 8;"), 0);
        undoable(x, "run", x::run);
        due("a sponsor of members that leave", runOf(x, "leave 7;join 8 0 300;"), 2);
        due("member(8, 0)", x.member(8, 0), 1);
    }

    private static void undo() {
        subject("promise 23");
        QuotaOverlay x = new QuotaOverlay();
        for (int i = 1; i <= 5; i++) {
            x.tick(i);
        }
        x.type('t');
        due("undo()", x.undo(), 2);
        due("time", x.overlay(1), 10);
        due("undo()", x.undo(), 1);
        due("time", x.overlay(1), 6);
        x.tick(100);
        due("undo()", x.undo(), 1);
        due("time", x.overlay(1), 6);
        due("undo()", x.undo(), 0);
        due("time", x.overlay(1), 3);
        refused(x, "an empty stack", STATE, x::undo);
        due("the script stays", x.clearScript(), 1);

        QuotaOverlay y = withMembers(0, 128, 64);
        long before = valuesOf(y);
        y.setPuzzles(6, 10, 5);
        y.setQuotas(1, 1);
        y.tick(10);
        due("all ended", y.overlay(0), 0);
        y.undo();
        y.undo();
        y.undo();
        due("all is back", valuesOf(y), before);
        y.lookup(128, 64);
        y.leave(0);
        y.admit(1, 1, 64);
        y.undo();
        y.undo();
        y.undo();
        due("all is back", valuesOf(y), before);
    }

    private static void digest() {
        subject("promise 24");
        QuotaOverlay x = new QuotaOverlay();
        due("digest()", x.digest(), hash(0, 0, 0, 0, 0, 2, 0, 2, 8, 100, 0, 0, 0, 0, 0, 0, 0, 0, 0, 0));
        x.type('t');
        x.tick(3);
        x.admit(5, 2, NONE);
        due("digest()", x.digest(), hash(2, 1, 1, 3, 0, 2, 1, 2, 8, 100, 1, 1, 0, 0, 0, 0, 0, 0, 0, 0,
                5, 2, 3, 0, 0, 0, 0, 0, 0, 0, 0, 0, 0));
        x.admit(4, 1, 5);
        due("digest()", x.digest(), hash(3, 1, 2, 3, 0, 2, 2, 2, 8, 100, 1, 2, 0, 1, 1, 0, 0, 0, 0, 1,
                4, 1, 3, 1, 1, 0, 0, 0, 0, 0, 0, 0, 1, 5, 2,
                5, 2, 3, 1, 1, 0, 0, 0, 0, 0, 0, 0, 1, 4, 1));
    }

    public static void main(String[] args) {
        newObject();
        setPuzzles();
        setQuotas();
        tick();
        solve();
        zeros();
        join();
        admit();
        leave();
        swarm();
        lookup();
        learning();
        fullBuckets();
        probe();
        reach();
        member();
        memberAt();
        entry();
        share();
        overlay();
        count();
        type();
        clearScript();
        faults();
        run();
        undo();
        digest();
        finish("the promises");
    }
}
