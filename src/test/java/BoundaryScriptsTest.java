/** SCRIPTS, UNDO and EXCEPTIONS: a test of its own for each sentence that names a boundary. */
public final class BoundaryScriptsTest extends Checks {
    private static final String LETTERS = "abcdefghijklmnopqrstuvwxyz";
    private static final String DIGITS = "0123456789";

    private static void dueRun(String text, int want) {
        due("run of \"" + text + "\"", runOf(new QuotaOverlay(), text), want);
    }

    private static void dueFault(String text, int fault) {
        dueRun(text, -10 - fault);
    }

    private static void everyByte(String beginning, String mayStand, String mayEnd, int commands, int fault) {
        everyByte(beginning, mayStand, mayEnd, commands, fault, "", 0);
    }

    /**
     * Every byte behind a beginning: some may stand there (and the script then ends too soon), some end it rightly,
     * some have a fault of their own, and for all others the fault is the one told.
     */
    private static void everyByte(String beginning, String mayStand, String mayEnd, int commands, int fault,
            String others, int otherFault) {
        for (int value = 0; value < 128; value++) {
            int want = -10 - fault;
            if (mayStand.indexOf(value) >= 0) {
                want = -10 - (beginning.length() + 1);
            } else if (mayEnd.indexOf(value) >= 0) {
                want = commands;
            } else if (others.indexOf(value) >= 0) {
                want = -10 - otherFault;
            }
            due("run of \"" + beginning + "\" and " + value, runOf(new QuotaOverlay(), beginning + (char) value), want);
        }
    }

    // ---- SCRIPTS

    private static void mostBytes() {
        sentence("The script has at most 120 bytes.");
        QuotaOverlay x = new QuotaOverlay();
        write(x, "tick 1;".repeat(17));
        due("the 120th byte", x.type(' '), 120);
        refused(x, "the 121st byte", STATE, () -> x.type(' '));
        due("17 commands of a full script", x.run(), 17);
        due("the time", x.overlay(1), 17);
        due("its length", x.clearScript(), 120);
        due("there is room again", x.type('t'), 1);
    }

    private static void fullAndTooShort() {
        sentence("or the length of the script if it ends too soon");
        QuotaOverlay x = new QuotaOverlay();
        write(x, " ".repeat(115) + "tick ");
        due("a full script that ends too soon", x.run(), -130);
        write(x, "tick 1;".repeat(16) + " ".repeat(2) + "tick 1");
        due("a full script without its last semicolon", x.run(), -130);
        due("nothing was done", x.overlay(1), 0);
    }

    private static void noCommands() {
        sentence("(perhaps none: a script that is empty, or has spaces alone, has no fault)");
        dueRun("", 0);
        dueRun(" ", 0);
        dueRun(" ".repeat(120), 0);
        QuotaOverlay x = new QuotaOverlay();
        due("a new object's script", x.run(), 0);
        due("a state is saved", x.undo(), 0);
    }

    private static void words() {
        sentence("each of which is a word of letters a to z");
        everyByte("", "", " ", 0, 0);
        everyByte("  ", "", " ", 0, 2);
        everyByte("tick 1;", "", " ", 1, 7);
        everyByte("tick 1; ", "", " ", 1, 8);
        dueFault("TICK 1;", 0);
        dueFault("Tick 1;", 0);
        dueFault("tiCk 1;", 0);
    }

    private static void digits() {
        sentence("each of one to five digits (zeros in front are allowed; a sixth digit cannot stand)");
        dueRun("tick 1;", 1);
        dueRun("tick 00001;", 1);
        dueRun("tick 00500;", 1);
        dueFault("tick 000001;", 10);
        dueFault("tick 123456;", 10);
        dueFault("tick 1234567;", 10);
        dueFault("tick ;", 5);
        dueFault("join 1 1 111111;", 14);
        dueFault("join 111111 1 1;", 10);
        everyByte("tick 1234", DIGITS + " ", ";", 0, 9);
        everyByte("tick 12345", " ", ";", 0, 10);
    }

    private static void valuesOfNumbers() {
        sentence("each of one to five digits (zeros in front are allowed; a sixth digit cannot stand)");
        QuotaOverlay x = open();
        due("numbers of all lengths", runOf(x, "tick 5;tick 10;tick 100;tick 0200;tick 00001;"), 5);
        due("the time", x.overlay(1), 316);
        due("zeros alone", runOf(x, "join 000 00000 0;look 0 00255;leave 00;"), 3);
        due("all digits count", runOf(x, "tick 10000;"), 0);
        due("the greatest number", runOf(x, "tick 1;tick 99999;"), 1);
        due("the time", x.overlay(1), 317);
    }

    private static void spacesInFront() {
        sentence("and with at least one space (byte 32) in front, and a semicolon");
        dueRun("tick 1;", 1);
        dueRun("tick  1;", 1);
        dueRun("tick" + " ".repeat(114) + "1;", 1);
        dueFault("tick1;", 4);
        dueFault("tick\t1;", 4);
        dueFault("join 1 2,3;", 8);
        everyByte("tick ", DIGITS + " ", "", 0, 5);
        everyByte("join 1 ", DIGITS + " ", "", 0, 7);
        everyByte("join 1 2", DIGITS + " ", "", 0, 8);
        everyByte("join 1 2 ", DIGITS + " ", "", 0, 9);
        everyByte("look 1", DIGITS + " ", "", 0, 6);
    }

    private static void semicolons() {
        sentence("and with at least one space (byte 32) in front, and a semicolon");
        everyByte("tick 0", DIGITS + " ", ";", 0, 6);
        everyByte("tick 0 ", " ", ";", 0, 7);
        everyByte("leave 0", DIGITS + " ", ";", 0, 7);
        everyByte("look 0 0", DIGITS + " ", ";", 0, 8);
        everyByte("join 0 0 0", DIGITS + " ", ";", 1, 10);
        everyByte("join 0 0 0 ", " ", ";", 1, 11);
        dueFault("tick 1;;", 7);
        dueFault(";", 0);
        dueFault("tick 1 tick 1;", 7);
    }

    private static void freeSpaces() {
        sentence("Spaces may also stand in front of a command, in front of a semicolon, and at the end.");
        dueRun("   tick 1;", 1);
        dueRun("tick 1   ;", 1);
        dueRun("tick 1;   ", 1);
        dueRun("  tick  1  ;  tick  2  ;  ", 2);
        dueFault("ti ck 1;", 0);
        dueFault("tick 1;t ick 2;", 7);
        due("no space within a number", runOf(open(), "tick 1 0;"), -17);
    }

    private static void numbersOfWords() {
        sentence("The words are: join i o s (admit(i, o, s)), leave i (leave(i)), look a x (lookup(a, x)), tick n.");
        dueFault("join 1 2;", 8);
        dueFault("join 1 2 3 4;", 11);
        dueFault("leave;", 5);
        dueFault("leave 1 2;", 8);
        dueFault("look 1;", 6);
        dueFault("look 1 2 3;", 9);
        dueFault("tick;", 4);
        dueFault("tick 1 2;", 7);
        QuotaOverlay x = new QuotaOverlay();
        due("join", runOf(x, "join 9 7 9;join 8 6 9;"), 2);
        dueTable(x, 9, "7:8/6");
        dueTable(x, 8, "7:9/7");
        due("look", runOf(x, "look 9 8;"), 1);
        due("lookups", x.count(2), 2);
        due("leave", runOf(x, "leave 9;"), 1);
        dueMembers(x, 8);
        due("tick", runOf(x, "tick 99;tick 1;"), 2);
        dueMembers(x);
    }

    private static void faultIndex() {
        sentence("The fault of a script is the index of the first byte that cannot stand at its place");
        dueFault("!", 0);
        dueFault("tick 1;!", 7);
        dueFault("tick !;tick ?;", 5);
        dueFault("tick 1;tick ?;hop 1;", 12);
        dueFault("tick 1;".repeat(17) + "!", 119);
        dueFault(" ".repeat(119) + ";", 119);
        dueFault((char) 0 + "tick 1;", 0);
        dueFault("tick 1;" + (char) 127, 7);
        dueFault("tick 1" + (char) 10 + ";", 6);
    }

    private static void tooSoon() {
        sentence("or the length of the script if it ends too soon");
        String text = "join 12 3 45;";
        for (int length = 4; length < text.length(); length++) {
            dueFault(text.substring(0, length), length);
        }
        dueFault("tick 1;look 1 2", 15);
        dueFault("tick 1;leave", 12);
    }

    private static void badWords() {
        sentence("A word that is not one of these is at fault with its first byte, found when the word is complete: "
                + "when a byte that is no letter, or the end of the script, follows it.");
        dueFault("hop 1;", 0);
        dueFault("hop!", 0);
        dueFault("hop", 0);
        dueFault("  hop", 2);
        dueFault("tick 1;hop;", 7);
        dueFault("joi", 0);
        dueFault("j", 0);
        dueFault("joinn 1 2 3;", 0);
        dueFault("jjoin 1 2 3;", 0);
        dueFault("tick 1; loo", 8);
        dueFault("z".repeat(120), 0);
        dueFault("join", 4);
        dueFault("join!", 4);
        everyByte("tick", " ", "", 0, 4, LETTERS, 0);
        everyByte("leave", " ", "", 0, 5, LETTERS, 0);
        everyByte("tick 1;look", " ", "", 1, 11, LETTERS, 7);
        everyByte("hop", "", "", 0, 0);
    }

    private static void almostWords() {
        sentence("A word that is not one of these is at fault with its first byte");
        String[][] commands = {{"join", " 1 2 3;"}, {"leave", " 1;"}, {"look", " 1 2;"}, {"tick", " 1;"}};
        for (String[] command : commands) {
            String word = command[0];
            for (int i = 0; i < word.length(); i++) {
                String front = word.substring(0, i);
                String back = word.substring(i + 1);
                dueFault(front + "x" + back + command[1], 0);
                dueFault(front + back + command[1], 0);
                dueFault(front + "z" + word.charAt(i) + back + command[1], 0);
                dueFault(" " + front + "b" + back, 1);
            }
            dueFault(word + "a" + command[1], 0);
            dueFault(word + word + command[1], 0);
            dueFault(word, word.length());
            dueRun(word + command[1], word.equals("join") || word.equals("tick") ? 1 : 0);
        }
    }

    private static void faultyRun() {
        sentence("if it has a fault, nothing is done");
        QuotaOverlay x = withMembers(1, 2);
        write(x, "tick 1;leave 1;join 3 0 2;tick");
        long before = x.digest();
        due("a fault at the end", x.run(), -40);
        due("nothing changes", x.digest(), before);
        due("nothing is saved: that of the last admit() is the latest state", x.undo(), 2);
        dueMembers(x, 1);
    }

    private static void stoppedRun() {
        sentence("otherwise the commands are carried out in their order, until one of them would throw an exception, "
                + "which is not thrown; those before it stay done, and they alone count");
        String[] stops = {
            "tick 0;", "tick 501;", "tick 99999;",
            "leave 9;", "leave 256;", "leave 99999;",
            "look 9 0;", "look 256 0;", "look 7 256;", "look 99999 99999;",
            "join 7 0 7;", "join 256 0 7;", "join 9 8 7;", "join 9 0 9;", "join 9 0 256;", "join 9 0 99999;",
        };
        for (String stop : stops) {
            QuotaOverlay x = withMembers(7);
            due("run with " + stop, runOf(x, "tick 3;join 8 0 7;" + stop + "tick 5;leave 7;"), 2);
            due("the time", x.overlay(1), 3);
            dueMembers(x, 7, 8);
            dueCounts(x, 2, 0, 1, 1, 0, 0, 0, 0, 1);
            due("one state", x.undo(), 3 - 1);
            dueMembers(x, 7);
            due("the time", x.overlay(1), 0);
        }
    }

    private static void stoppedByFull() {
        sentence("until one of them would throw an exception, which is not thrown");
        QuotaOverlay x = full();
        due("no room", runOf(x, "tick 1;join 255 0 0;tick 1;"), 1);
        due("room first", runOf(x, "leave 10;join 255 0 0;join 254 0 0;tick 1;"), 2);
        due("24 members", x.overlay(0), 24);
    }

    private static void stoppedAtOnce() {
        sentence("A run saves one state, the one from before it; its commands save none.");
        QuotaOverlay x = new QuotaOverlay();
        due("the first command would throw", runOf(x, "leave 1;tick 1;"), 0);
        due("one state all the same", x.undo(), 0);
    }

    private static void oneStateOfARun() {
        sentence("A run saves one state, the one from before it; its commands save none.");
        QuotaOverlay x = new QuotaOverlay();
        x.tick(1);
        due("five commands", runOf(x, "tick 1;tick 1;join 1 0 0;look 1 1;leave 1;"), 5);
        due("the one from before the run", x.undo(), 1);
        due("the time", x.overlay(1), 1);
        dueCounts(x, 0, 0, 0, 0, 0, 0, 0, 0, 0);
        due("the one from before tick()", x.undo(), 0);
        due("the time", x.overlay(1), 0);
    }

    // ---- UNDO

    private interface Use {
        long on(QuotaOverlay x);
    }

    /** Three members, three saved states and a script. */
    private static QuotaOverlay three() {
        QuotaOverlay x = withMembers(0, 128, 64);
        write(x, "tick 2;");
        return x;
    }

    private static void undoables() {
        sentence("Every method that is marked \"undoable\" saves the whole state but the script on an undo stack when "
                + "it ends normally");
        Use[] changes = {
            x -> x.setPuzzles(6, 10, 5), x -> x.setQuotas(1, 1), x -> x.tick(500), x -> x.join(9, 7, 5, 64),
            x -> x.admit(9, 7, 64), x -> x.leave(128), x -> x.swarm(1, 7, 16, 5, 64), x -> x.lookup(64, 1),
            QuotaOverlay::run,
        };
        for (int i = 0; i < changes.length; i++) {
            QuotaOverlay x = three();
            x.tick(1);
            x.undo();
            long values = valuesOf(x);
            changes[i].on(x);
            due("change " + i + " changes something", valuesOf(x) != values);
            due("change " + i + " saves a state", x.undo(), 2);
            due("the state before change " + i, valuesOf(x), values);
            due("the script stays", x.clearScript(), 7);
        }
    }

    private static void changesOfNothing() {
        sentence("also if it changes nothing");
        Use[] changes = {
            x -> x.setPuzzles(2, 100, 20), x -> x.setQuotas(2, 8), x -> x.swarm(5, 128, 2, 0, 133), QuotaOverlay::run,
        };
        for (int i = 0; i < changes.length; i++) {
            QuotaOverlay x = new QuotaOverlay();
            x.admit(133, 0, NONE);
            x.admit(5, 0, 133);
            long values = valuesOf(x);
            changes[i].on(x);
            due("change " + i + " changes nothing", valuesOf(x), values);
            due("change " + i + " saves a state", x.undo(), 2);
            due("the state is the same", valuesOf(x), values);
        }
    }

    private static void questions() {
        sentence("Every method that is marked \"undoable\" saves the whole state");
        Use[] questions = {
            x -> x.solve(9), x -> x.zeros(9, 9, 9), x -> x.probe(64, 1, 0), x -> x.reach(64), x -> x.member(64, 4),
            x -> x.memberAt(1), x -> x.entry(64, 0, 0, 0), x -> x.share(64, 0), x -> x.overlay(8), x -> x.count(8),
            QuotaOverlay::digest,
        };
        for (int i = 0; i < questions.length; i++) {
            QuotaOverlay x = three();
            x.tick(1);
            x.undo();
            long before = x.digest();
            questions[i].on(x);
            due("question " + i + " changes nothing and saves nothing", x.digest(), before);
            due("question " + i + " saves nothing", x.undo(), 1);
        }
        QuotaOverlay x = new QuotaOverlay();
        x.type('t');
        x.run();
        x.clearScript();
        refused(x, "type(), a faulty run() and clearScript() save nothing", STATE, x::undo);
    }

    private static void savedBefore() {
        sentence("The saved state is the one from before the call.");
        QuotaOverlay x = new QuotaOverlay();
        x.tick(7);
        x.tick(5);
        due("undo()", x.undo(), 1);
        due("the time", x.overlay(1), 7);
        due("undo()", x.undo(), 0);
        due("the time", x.overlay(1), 0);
    }

    private static void latestThree() {
        sentence("The stack keeps the latest 3 saved states and drops older ones.");
        for (int ticks = 0; ticks <= 6; ticks++) {
            QuotaOverlay x = new QuotaOverlay();
            for (int i = 0; i < ticks; i++) {
                x.tick(1);
            }
            int kept = Math.min(ticks, 3);
            for (int left = kept - 1; left >= 0; left--) {
                due("undo() after " + ticks, x.undo(), left);
                due("the time", x.overlay(1), ticks - kept + left);
            }
            refused(x, "one more undo() after " + ticks, STATE, x::undo);
        }
    }

    private static void stackInTurns() {
        sentence("The stack keeps the latest 3 saved states and drops older ones.");
        QuotaOverlay x = new QuotaOverlay();
        for (int i = 0; i < 4; i++) {
            x.tick(1);
        }
        due("three are left of four", x.undo(), 2);
        x.tick(10);
        x.tick(100);
        due("the time", x.overlay(1), 113);
        // Saved at 1, 2, 3 and 13: that at 1 is dropped.
        due("undo()", x.undo(), 2);
        due("the time", x.overlay(1), 13);
        due("undo()", x.undo(), 1);
        due("the time", x.overlay(1), 3);
        due("undo()", x.undo(), 0);
        due("the time", x.overlay(1), 2);
        refused(x, "the stack is empty", STATE, x::undo);
    }

    private static void wholeState() {
        sentence("saves the whole state but the script");
        QuotaOverlay x = new QuotaOverlay();
        x.setPuzzles(1, 60, 7);
        x.setQuotas(3, 11);
        x.tick(13);
        x.admit(1, 3, NONE);
        x.admit(9, 4, 1);
        long values = valuesOf(x);
        x.setPuzzles(6, 10, 5);
        write(x, "join 2 2 1;look 2 9;leave 9;tick 10;");
        due("all of it", x.run(), 4);
        dueMembers(x);
        x.setQuotas(1, 1);
        x.undo();
        x.undo();
        x.undo();
        due("all values are back", valuesOf(x), values);
        due("the script is not", x.run(), 4);
        x.undo();
        // The values that no call tells by itself: the base and the epoch length.
        due("the base", x.setPuzzles(0, 60, 7), 1);
        x.undo();
        due("the end of the epoch at 14", x.tick(1) + 10 * x.overlay(2), 20);
        due("members that end at 73", x.tick(58), 0);
        due("members that end at 73", x.tick(1), 2);
    }

    private static void membersAtTheEnds() {
        sentence("saves the whole state but the script");
        QuotaOverlay x = withMembers(0, 1, 254, 255);
        long values = valuesOf(x);
        int[] identities = {0, 1, 254, 255};
        for (int identity : identities) {
            x.leave(identity);
            due("member(" + identity + ", 0)", x.member(identity, 0), 0);
            x.undo();
            due("all are back", valuesOf(x), values);
            due("member(" + identity + ", 0)", x.member(identity, 0), 1);
        }
        QuotaOverlay y = withMembers(100);
        for (int identity : identities) {
            y.admit(identity, 0, 100);
            y.undo();
            due("member(" + identity + ", 0)", y.member(identity, 0), 0);
        }
    }

    private static void fullOverlayBack() {
        sentence("saves the whole state but the script");
        QuotaOverlay x = full();
        long values = valuesOf(x);
        x.tick(500);
        x.tick(500);
        due("all ended", x.overlay(0), 0);
        x.admit(255, 0, NONE);
        x.undo();
        x.undo();
        x.undo();
        due("all 24 and their tables are back", valuesOf(x), values);
    }

    // ---- EXCEPTIONS

    private static void nothingChanges() {
        sentence("A call that throws an exception changes nothing.");
        Use[] refusals = {
            x -> x.setPuzzles(1, 10, 101), x -> x.setPuzzles(1, 9, 5), x -> x.setPuzzles(7, 10, 5),
            x -> x.setQuotas(1, 33), x -> x.setQuotas(5, 1), x -> x.tick(0), x -> x.tick(501), x -> x.solve(256),
            x -> x.zeros(0, 0, -1), x -> x.join(9, 0, 5, 10), x -> x.join(0, 0, 5, 64), x -> x.join(9, 8, 5, 64),
            x -> x.admit(9, 0, 10), x -> x.admit(64, 0, 0), x -> x.admit(9, 0, 256), x -> x.leave(9),
            x -> x.leave(256), x -> x.swarm(1, 1, 17, 0, 0), x -> x.swarm(1, 1, 16, 0, 9), x -> x.lookup(9, 0),
            x -> x.lookup(64, 256), x -> x.probe(64, 0, 4), x -> x.probe(9, 0, 0), x -> x.reach(9), x -> x.reach(-1),
            x -> x.member(256, 0), x -> x.memberAt(-1), x -> x.entry(9, 0, 0, 0), x -> x.share(9, 0),
            x -> x.overlay(9), x -> x.count(9), x -> x.type(128),
        };
        for (int i = 0; i < refusals.length; i++) {
            QuotaOverlay x = three();
            QuotaOverlay twin = three();
            Use refusal = refusals[i];
            Class<?> kind = null;
            try {
                refusal.on(x);
            } catch (IllegalArgumentException | IllegalStateException | UnsupportedOperationException e) {
                kind = e.getClass();
            }
            due("refusal " + i + " throws", kind != null);
            // What no value tells is told by what the two do next: the base, the script, and the saved states.
            due("the values after refusal " + i, x.digest(), twin.digest());
            due("the script after refusal " + i, x.run() == 1 && x.digest() != twin.digest());
            twin.run();
            for (int undos = 0; undos < 3; undos++) {
                x.undo();
                twin.undo();
                due("undo() after refusal " + i, x.digest(), twin.digest());
            }
            due("the base after refusal " + i, x.setPuzzles(3, 20, 5), twin.setPuzzles(3, 20, 5));
        }
    }

    private static void nothingChangesWhenEmpty() {
        sentence("A call that throws an exception changes nothing.");
        QuotaOverlay x = new QuotaOverlay();
        refused(x, "undo() of nothing", STATE, x::undo);
        refused(x, "undo() of nothing, again", STATE, x::undo);
        x.tick(3);
        due("the first state", x.undo(), 0);
        refused(x, "undo() of nothing once more", STATE, x::undo);
        due("the time", x.overlay(1), 0);
    }

    private static void firstListedOfJoin() {
        sentence("If several exceptions of a method apply, the one that is listed first is thrown.");
        QuotaOverlay x = full();
        int members = x.overlay(0);
        due("24 members", members, 24);
        int bad = 0;
        while (zerosByHand(9, bad, 0) >= 1 || zerosByHand(10, bad, 0) >= 1) {
            bad++;
        }
        int nonce = bad;
        refused(x, "join: a wrong identity and 24 members", ARGUMENT, () -> x.join(256, 0, 0, 0));
        refused(x, "join: a wrong origin and 24 members", ARGUMENT, () -> x.join(9, 8, 0, 0));
        refused(x, "join: a wrong nonce and 24 members", ARGUMENT, () -> x.join(9, 0, 100000, 0));
        refused(x, "join: a wrong sponsor and 24 members", ARGUMENT, () -> x.join(9, 0, 0, 256));
        refused(x, "join: a wrong sponsor and a member", ARGUMENT, () -> x.join(10, 0, 0, -2));
        refused(x, "join: a wrong nonce and a member", ARGUMENT, () -> x.join(10, 0, -1, 9));
        refused(x, "join: 24 members and no solution", STATE, () -> x.join(9, 0, nonce, 0));
        refused(x, "join: 24 members and no sponsor", STATE, () -> x.join(9, 0, 0, NONE));
        refused(x, "join: 24 members and a sponsor that is none", STATE, () -> x.join(9, 0, nonce, 9));
        x.leave(230);
        refused(x, "join: a member and no solution", STATE, () -> x.join(10, 0, nonce, 0));
        refused(x, "join: a member and no sponsor", STATE, () -> x.join(10, 0, nonce, NONE));
        refused(x, "join: a wrong origin and no solution", ARGUMENT, () -> x.join(9, -1, nonce, 0));
        refused(x, "join: a wrong identity and no sponsor", ARGUMENT, () -> x.join(-1, 0, nonce, NONE));
        refused(x, "join: no solution and no sponsor", UNSUPPORTED, () -> x.join(9, 0, nonce, NONE));
    }

    private static void firstListedOfAdmit() {
        sentence("If several exceptions of a method apply, the one that is listed first is thrown.");
        QuotaOverlay x = full();
        refused(x, "admit: a wrong identity and 24 members", ARGUMENT, () -> x.admit(256, 0, 0));
        refused(x, "admit: a wrong origin and 24 members", ARGUMENT, () -> x.admit(9, 8, 0));
        refused(x, "admit: a wrong sponsor and 24 members", ARGUMENT, () -> x.admit(9, 0, 256));
        refused(x, "admit: a wrong sponsor and a member", ARGUMENT, () -> x.admit(10, 0, -2));
        refused(x, "admit: 24 members and no sponsor", STATE, () -> x.admit(9, 0, NONE));
        refused(x, "admit: 24 members and a sponsor that is none", STATE, () -> x.admit(9, 0, 9));
        x.leave(230);
        refused(x, "admit: a member and no sponsor", STATE, () -> x.admit(10, 0, NONE));
        refused(x, "admit: a wrong origin and no sponsor", ARGUMENT, () -> x.admit(9, -1, NONE));
    }

    private static void firstListedOfOthers() {
        sentence("If several exceptions of a method apply, the one that is listed first is thrown.");
        QuotaOverlay x = three();
        refused(x, "swarm: a wrong first and no sponsor", ARGUMENT, () -> x.swarm(256, 1, 1, 0, 9));
        refused(x, "swarm: a wrong step and no sponsor", ARGUMENT, () -> x.swarm(1, 0, 1, 0, 9));
        refused(x, "swarm: a wrong many and no sponsor", ARGUMENT, () -> x.swarm(1, 1, 17, 0, 9));
        refused(x, "swarm: a wrong origin and no sponsor", ARGUMENT, () -> x.swarm(1, 1, 1, 8, 9));
        refused(x, "lookup: a wrong target and no member", ARGUMENT, () -> x.lookup(9, 256));
        refused(x, "probe: a wrong target and no member", ARGUMENT, () -> x.probe(9, -1, 0));
        refused(x, "probe: a wrong what and no member", ARGUMENT, () -> x.probe(9, 0, 4));
        refused(x, "entry: a wrong bucket and no member", ARGUMENT, () -> x.entry(9, 8, 0, 0));
        refused(x, "entry: a wrong index and no member", ARGUMENT, () -> x.entry(9, 0, -1, 0));
        refused(x, "entry: a wrong what and no member", ARGUMENT, () -> x.entry(9, 0, 0, 2));
        refused(x, "share: a wrong origin and no member", ARGUMENT, () -> x.share(9, 8));
        write(x, " ".repeat(120));
        refused(x, "type: a wrong byte and no room", ARGUMENT, () -> x.type(128));
        refused(x, "type: a wrong byte and no room", ARGUMENT, () -> x.type(-1));
    }

    private static void noneAfterExceptions() {
        sentence("NONE is returned only if no exception applies.");
        QuotaOverlay x = three();
        refused(x, "memberAt(-1)", ARGUMENT, () -> x.memberAt(-1));
        refused(x, "member() of no member with a wrong what", ARGUMENT, () -> x.member(9, 5));
        refused(x, "entry() too far, of no member", STATE, () -> x.entry(9, 0, 9, 0));
        refused(x, "entry() too far, with a wrong what", ARGUMENT, () -> x.entry(64, 0, 9, 2));
        due("memberAt(3)", x.memberAt(3), NONE);
        due("member(9, 1)", x.member(9, 1), NONE);
        due("entry(64, 0, 9, 0)", x.entry(64, 0, 9, 0), NONE);
        due("NONE", QuotaOverlay.NONE, -1);
    }

    public static void main(String[] args) {
        mostBytes();
        fullAndTooShort();
        noCommands();
        words();
        digits();
        valuesOfNumbers();
        spacesInFront();
        semicolons();
        freeSpaces();
        numbersOfWords();
        faultIndex();
        tooSoon();
        badWords();
        almostWords();
        faultyRun();
        stoppedRun();
        stoppedByFull();
        stoppedAtOnce();
        oneStateOfARun();
        undoables();
        changesOfNothing();
        questions();
        savedBefore();
        latestThree();
        stackInTurns();
        wholeState();
        membersAtTheEnds();
        fullOverlayBack();
        nothingChanges();
        nothingChangesWhenEmpty();
        firstListedOfJoin();
        firstListedOfAdmit();
        firstListedOfOthers();
        noneAfterExceptions();
        finish("boundaries of scripts, undo and exceptions");
    }
}
