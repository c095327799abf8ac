/** Long runs of mixed calls, each answer compared with the reference program's. */
public final class ReferenceTest {
    private static final String[] KNOWN = {
        "@L@00L@00", "@L@@000L@@000", "LL@1@10", "LL@1@1@10", "LLL@@20@10", "LL1", "LL0", "@LaL@00", "@@LL1a@L@00L@00",
        "@LLL@@210a", "L@L@L00a", "@L@L@10bc", "@L0@L0a", "L@LL@100", "L@LL@@2100", "@@@LLL@@20@10LL1LL1a",
        "LLLLLLLLLLL9", "@LLLLLLLLLLLLLLLLLLLLLLL@90a", "@L@L0@0@L00@L0a", "@L@0@0@0@0@00L@00", "L@0@L1a", "@a@Lab",
        "@L@@@@@@0000000LLLLLLLLLLLLLLLLLLLLL0"
    };

    private final Check check;
    private long seed;
    private CountedTerms x;
    private ReferenceTerms y;

    private ReferenceTest(Check check, long seed) {
        this.check = check;
        this.seed = seed;
    }

    public static void main(String[] args) {
        Check check = new Check("ReferenceTest");
        for (int run = 1; run <= 300; run++) {
            new ReferenceTest(check, run * 7919L).compareRun(run);
        }
        check.finish();
    }

    private int pick(int bound) {
        seed = seed * 6364136223846793005L + 1442695040888963407L;
        return (int) ((seed >>> 33) % bound);
    }

    /** Mostly a register that there is. */
    private int register() {
        return pick(40) == 0 ? pick(2) * 7 - 1 : pick(6);
    }

    private int order() {
        return pick(40) == 0 ? pick(2) * 4 - 1 : pick(3);
    }

    private int fuel() {
        int[] edges = {0, 1, 2, 5, 20, 199, 200, 201};
        return pick(3) == 0 ? edges[pick(8)] : 1 + pick(60);
    }

    private String term(int parts, int around) {
        if (parts <= 1) {
            return around > 0 && pick(4) != 0 ? "" + pick(Math.min(around, 10)) : "" + (char) ('a' + pick(6));
        }
        if (parts == 2 || pick(5) < 2) {
            return "L" + term(parts - 1, around + 1);
        }
        int first = 1 + pick(parts - 2);
        if (first > 1 && pick(2) == 0) {
            return "@L" + term(first - 1, around + 1) + term(parts - 1 - first, around);
        }
        return "@" + term(first, around) + term(parts - 1 - first, around);
    }

    private String text() {
        String text = pick(4) == 0 ? KNOWN[pick(KNOWN.length)] : term(1 + pick(60), 0);
        if (pick(8) == 0) {
            int place = pick(text.length());
            text = text.substring(0, place) + "L@0129afgK/:!~".charAt(pick(14)) + text.substring(place + pick(2));
        }
        return text;
    }

    private void put(String call, long number) {
        check.due(call + "put(" + number + ")", x.put(number), y.put(number));
    }

    private void write(String call) {
        String text = text();
        for (int i = 0; i < text.length(); i += 8) {
            put(call, Check.packed(text.substring(i, Math.min(i + 8, text.length()))));
        }
    }

    private void readSome(String call) {
        write(call);
        check.due(call + "fault()", x.fault(), y.fault());
        int register = register();
        int got = x.read(register);
        check.due(call + "read(" + register + ")", got, y.read(register));
        if (got < 0) {
            check.due(call + "wipe()", x.wipe(), y.wipe());
        }
    }

    private void change(String call) {
        int a = register();
        int b = register();
        int c = register();
        int order = order();
        int fuel = fuel();
        int constant = pick(8) - 1;
        switch (pick(9)) {
            case 0 -> readSome(call);
            case 1 -> check.due(call + "copy " + a + " " + b, x.copy(a, b), y.copy(a, b));
            case 2, 3 -> check.due(call + "apply " + a + " " + b + " " + c, x.apply(a, b, c), y.apply(a, b, c));
            case 4 -> check.due(call + "bind " + a + " " + constant + " " + b, x.bind(a, constant, b), y.bind(a, constant, b));
            case 5, 6, 7 -> check.due(call + "step " + a + " " + order, x.step(a, order), y.step(a, order));
            default -> check.due(call + "run " + a + " " + order + " " + fuel, x.run(a, order, fuel), y.run(a, order, fuel));
        }
    }

    private void question(String call) {
        int a = register();
        int b = register();
        int what = pick(13) - 1;
        int place = pick(30) - 1;
        switch (pick(7)) {
            case 0, 1 -> check.due(call + "of " + a + " " + what, x.of(a, what), y.of(a, what));
            case 2, 3 -> check.due(call + "part " + a + " " + place + " " + what / 2, x.part(a, place, what / 2), y.part(a, place, what / 2));
            case 4 -> check.due(call + "named " + a + " " + place, x.named(a, place), y.named(a, place));
            case 5 -> check.due(call + "same " + a + " " + b, x.same(a, b), y.same(a, b));
            default -> check.due(call + "count " + what / 2, x.count(what / 2), y.count(what / 2));
        }
    }

    private void trial(String call) {
        int a = register();
        int b = register();
        int order = order();
        int fuel = fuel();
        switch (pick(4)) {
            case 0 -> check.due(call + "ends " + a + " " + order + " " + fuel, x.ends(a, order, fuel), y.ends(a, order, fuel));
            case 1 -> check.due(call + "agree " + a + " " + fuel, x.agree(a, fuel), y.agree(a, fuel));
            case 2 -> check.due(call + "most " + a + " " + order + " " + fuel, x.most(a, order, fuel), y.most(a, order, fuel));
            default -> check.due(call + "alike " + a + " " + b + " " + fuel, x.alike(a, b, fuel), y.alike(a, b, fuel));
        }
    }

    private void history(String call) {
        int slot = pick(12) == 0 ? pick(2) * 3 - 1 : pick(2);
        switch (pick(4)) {
            case 0, 1 -> check.due(call + "undo", x.undo(), y.undo());
            case 2 -> check.due(call + "save " + slot, x.save(slot), y.save(slot));
            default -> check.due(call + "restore " + slot, x.restore(slot), y.restore(slot));
        }
    }

    private void compareRun(int run) {
        x = new CountedTerms();
        y = new ReferenceTerms();
        for (int i = 0; i < 6; i++) {
            readSome("run " + run + ", start: ");
        }
        for (int i = 0; i < 100; i++) {
            String call = "run " + run + ", " + i + ": ";
            switch (pick(20)) {
                case 0 -> history(call);
                case 1, 2 -> trial(call);
                case 3, 4, 5, 6 -> question(call);
                case 7 -> put(call, pick(2) == 0 ? pick(1 << 30) * 7L << pick(40) : pick(200));
                case 8, 9 -> readSome(call);
                default -> change(call);
            }
        }
        for (int register = 0; register < 6; register++) {
            for (int place = 0; place < 25; place++) {
                String call = "run " + run + ", end: named " + register + " " + place;
                check.due(call, x.named(register, place), y.named(register, place));
            }
            check.due("run " + run + ", end: most around " + register, x.of(register, 5), y.of(register, 5));
        }
    }
}
