import java.util.Random;

/** Random runs with fixed seeds: every answer, and the digest after every call, must be the model's. */
public final class ModelTest {
    private static final int CALLS = 512;
    private static int wrong = 0;

    private interface Call {
        long answer();
    }

    private final Random random;
    private final QuotaOverlay overlay = new QuotaOverlay();
    private final Model model = new Model();
    private final StringBuilder trail = new StringBuilder();
    /** Few identities make full buckets, returning members and dead entries frequent. */
    private final int identityMask;
    private final int oddity;
    private int calls = 0;
    private boolean good = true;

    private ModelTest(long seed) {
        random = new Random(seed);
        identityMask = new int[] {0xFF, 0xFF, 0x1F, 0xF0, 0x99, 0xE7}[random.nextInt(6)];
        oddity = random.nextInt(3) == 0 ? 8 : 60;
    }

    private static String outcome(Call call) {
        try {
            return Long.toString(call.answer());
        } catch (RuntimeException e) {
            return "throws." + e.getClass().getSimpleName();
        }
    }

    private void compare(String what, Call ours, Call theirs) {
        calls++;
        String got = outcome(ours);
        String want = outcome(theirs);
        trail.append(what).append(" = ").append(got).append('\n');
        if (good && (!got.equals(want) || overlay.digest() != model.digest())) {
            good = false;
            wrong++;
            System.out.println(trail + "  the last one answered " + got + ", due is " + want
                    + (got.equals(want) ? ", but the states differ" : ""));
        }
    }

    private int odd(int usual, int low, int high) {
        if (random.nextInt(oddity) != 0) {
            return usual;
        }
        int[] edges = {low - 1, low, high, high + 1, Integer.MIN_VALUE, Integer.MAX_VALUE};
        return edges[random.nextInt(edges.length)];
    }

    private int number(int low, int high) {
        return odd(low + random.nextInt(high - low + 1), low, high);
    }

    private int identity() {
        return odd(random.nextInt(256) & identityMask, 0, 255);
    }

    private int present() {
        int size = model.s.members.size();
        if (size == 0 || random.nextInt(20) == 0) {
            return random.nextInt(4) == 0 ? identity() : -1;
        }
        return model.memberAt(random.nextInt(size));
    }

    private void settings() {
        int a = number(0, 6);
        int b = odd(random.nextBoolean() ? 10 + random.nextInt(30) : 10 + random.nextInt(991), 10, 1000);
        int c = number(5, 100);
        if (random.nextBoolean()) {
            compare("setPuzzles(" + a + ", " + b + ", " + c + ")",
                    () -> overlay.setPuzzles(a, b, c), () -> model.setPuzzles(a, b, c));
        } else {
            int bucket = number(1, 4);
            int table = odd(random.nextBoolean() ? 1 + random.nextInt(4) : 1 + random.nextInt(32), 1, 32);
            compare("setQuotas(" + bucket + ", " + table + ")",
                    () -> overlay.setQuotas(bucket, table), () -> model.setQuotas(bucket, table));
        }
    }

    private void time() {
        int ticks = odd(random.nextInt(4) == 0 ? 1 + random.nextInt(60) : 1 + random.nextInt(8), 1, 500);
        compare("tick(" + ticks + ")", () -> overlay.tick(ticks), () -> model.tick(ticks));
    }

    private void entrance() {
        int identity = identity();
        int origin = number(0, random.nextBoolean() ? 7 : 2);
        int sponsor = present();
        switch (random.nextInt(8)) {
            case 0 -> {
                int nonce = odd(random.nextInt(8), 0, 99999);
                compare("join(" + identity + ", " + origin + ", " + nonce + ", " + sponsor + ")",
                        () -> overlay.join(identity, origin, nonce, sponsor),
                        () -> model.join(identity, origin, nonce, sponsor));
            }
            case 1 -> {
                int solved = identity >= 0 && identity < 256 ? overlay.solve(identity) : 0;
                compare("join(" + identity + ", " + origin + ", " + solved + ", " + sponsor + ")",
                        () -> overlay.join(identity, origin, solved, sponsor),
                        () -> model.join(identity, origin, solved, sponsor));
            }
            case 2 -> {
                int step = number(1, 255);
                int many = number(1, 16);
                compare("swarm(" + identity + ", " + step + ", " + many + ", " + origin + ", " + sponsor + ")",
                        () -> overlay.swarm(identity, step, many, origin, sponsor),
                        () -> model.swarm(identity, step, many, origin, sponsor));
            }
            default -> compare("admit(" + identity + ", " + origin + ", " + sponsor + ")",
                    () -> overlay.admit(identity, origin, sponsor), () -> model.admit(identity, origin, sponsor));
        }
    }

    private void departure() {
        int identity = present();
        compare("leave(" + identity + ")", () -> overlay.leave(identity), () -> model.leave(identity));
    }

    private void search() {
        int from = present();
        int target = identity();
        if (random.nextInt(3) != 0) {
            compare("lookup(" + from + ", " + target + ")",
                    () -> overlay.lookup(from, target), () -> model.lookup(from, target));
        } else if (random.nextInt(10) != 0) {
            int what = number(0, 3);
            compare("probe(" + from + ", " + target + ", " + what + ")",
                    () -> overlay.probe(from, target, what), () -> model.probe(from, target, what));
        } else {
            compare("reach(" + from + ")", () -> overlay.reach(from), () -> model.reach(from));
        }
    }

    private void puzzle() {
        int identity = identity();
        if (random.nextBoolean()) {
            compare("solve(" + identity + ")", () -> overlay.solve(identity), () -> model.solve(identity));
        } else {
            int nonce = number(0, 99999);
            int epoch = odd(random.nextInt(1 << (1 + random.nextInt(30))), 0, Integer.MAX_VALUE);
            compare("zeros(" + identity + ", " + nonce + ", " + epoch + ")",
                    () -> overlay.zeros(identity, nonce, epoch), () -> Model.zeros(identity, nonce, epoch));
        }
    }

    private void values() {
        int identity = random.nextBoolean() ? present() : identity();
        int what = number(0, 4);
        int index = odd(random.nextInt(25), 0, 24);
        int bucket = number(0, 7);
        int small = odd(random.nextInt(5), 0, 4);
        int side = number(0, 1);
        int eight = number(0, 8);
        switch (random.nextInt(6)) {
            case 0 -> compare("member(" + identity + ", " + what + ")",
                    () -> overlay.member(identity, what), () -> model.member(identity, what));
            case 1 -> compare("memberAt(" + index + ")",
                    () -> overlay.memberAt(index), () -> model.memberAt(index));
            case 2 -> compare("entry(" + identity + ", " + bucket + ", " + small + ", " + side + ")",
                    () -> overlay.entry(identity, bucket, small, side),
                    () -> model.entry(identity, bucket, small, side));
            case 3 -> compare("share(" + identity + ", " + bucket + ")",
                    () -> overlay.share(identity, bucket), () -> model.share(identity, bucket));
            case 4 -> compare("overlay(" + eight + ")", () -> overlay.overlay(eight), () -> model.overlay(eight));
            default -> compare("count(" + eight + ")", () -> overlay.count(eight), () -> model.count(eight));
        }
    }

    private String command() {
        String space = " ".repeat(random.nextInt(8) == 0 ? 2 : 1);
        String first = space + Math.max(0, random.nextBoolean() ? present() : identity() & 0xFFFF);
        String second = " " + (random.nextInt(256) & identityMask);
        String text = switch (random.nextInt(5)) {
            case 0 -> "leave" + first;
            case 1 -> "look" + first + second;
            case 2 -> "tick" + space + random.nextInt(12);
            default -> "join" + second + space + random.nextInt(random.nextInt(6) == 0 ? 10 : 8) + first;
        };
        return text + " ".repeat(random.nextInt(6) == 0 ? 1 : 0) + ";" + " ".repeat(random.nextInt(6) == 0 ? 1 : 0);
    }

    private String script() {
        StringBuilder text = new StringBuilder();
        int commands = random.nextInt(random.nextInt(4) == 0 ? 18 : 4);
        for (int i = 0; i < commands; i++) {
            text.append(command());
        }
        String marks = " ;0123456789joinleavelooktick" + (char) 0 + (char) 127 + "J/:{`\t";
        while (text.length() > 0 && random.nextInt(2) == 0) {
            int at = random.nextInt(text.length());
            char mark = marks.charAt(random.nextInt(marks.length()));
            switch (random.nextInt(4)) {
                case 0 -> text.setCharAt(at, mark);
                case 1 -> text.insert(at, mark);
                case 2 -> text.deleteCharAt(at);
                default -> text.setLength(at);
            }
        }
        return text.toString();
    }

    private void typeAndRun() {
        String text = script();
        if (random.nextInt(4) != 0) {
            compare("clearScript()", overlay::clearScript, model::clearScript);
        }
        for (int i = 0; i < text.length() && calls < CALLS - 2; i++) {
            int value = odd(text.charAt(i), 0, 127);
            compare("type(" + value + ")", () -> overlay.type(value), () -> model.type(value));
        }
        compare("run()", overlay::run, model::run);
    }

    private void step(int scripts) {
        int kind = random.nextInt(100);
        if (kind < scripts) {
            typeAndRun();
        } else if (kind < 45) {
            entrance();
        } else if (kind < 50) {
            departure();
        } else if (kind < 68) {
            search();
        } else if (kind < 76) {
            time();
        } else if (kind < 80) {
            settings();
        } else if (kind < 83) {
            puzzle();
        } else if (kind < 87) {
            compare("undo()", overlay::undo, model::undo);
        } else {
            values();
        }
    }

    private void play(int scripts) {
        while (calls < CALLS && good) {
            step(scripts);
        }
    }

    public static void main(String[] args) {
        int runs = args.length > 0 ? Integer.parseInt(args[0]) : 150;
        long[] seen = new long[9];
        for (int run = 0; run < runs && wrong < 3; run++) {
            ModelTest test = new ModelTest(run);
            test.play(run % 3 == 0 ? 15 : 1);
            for (int what = 0; what < 9; what++) {
                seen[what] += test.overlay.count(what);
            }
        }
        // Runs in which something never happens would prove nothing of it.
        for (int what = 0; what < 9; what++) {
            if (seen[what] == 0) {
                wrong++;
                System.out.println("count(" + what + ") stayed 0 in all runs");
            }
        }
        System.out.println(runs + " random runs, " + wrong + " wrong; counts " + java.util.Arrays.toString(seen));
        if (wrong != 0) {
            System.exit(1);
        }
    }
}
