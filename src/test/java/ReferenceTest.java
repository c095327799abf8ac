import java.util.Map;
import java.util.TreeMap;
import java.util.TreeSet;

/**
 * Runs of mixed calls on one object each, up to the last call for which an object is used;
 * each answer is compared with the reference program's.
 */
public final class ReferenceTest {
    private static final String[] KNOWN = {
        "@L@00L@00", "@L@@000L@@000", "LL@1@10", "LL@1@1@10", "LLL@@20@10", "LL1", "LL0", "@LaL@00", "@@LL1a@L@00L@00",
        "@LLL@@210a", "L@L@L00a", "@L@L@10bc", "@L0@L0a", "L@LL@100", "L@LL@@2100", "@@@LLL@@20@10LL1LL1a",
        "LLLLLLLLLLL9", "@LLLLLLLLLLLLLLLLLLLLLLL@90a", "@L@L0@0@L00@L0a", "@L@0@0@0@0@00L@00", "L@0@L1a", "@a@Lab",
        "@L@@@@@@0000000LLLLLLLLLLLLLLLLLLLLL0"
    };

    private static final int MOST_CALLS = 512;
    private static final int LAST_LOOK = 90;

    // How often, in 20, a run asks for each group: history, trials, questions, wrong texts, texts; changes have the rest.
    private static final int[][] MIXES = {{1, 2, 4, 1, 2}, {6, 1, 4, 1, 2}, {1, 7, 2, 0, 4}, {3, 2, 6, 1, 1}};

    // What a method may answer below 0: the runs have to come to each of them, and to no other.
    private static final String[] BELOW_ZERO = {
        "agree=[-6, -2, -1]", "alike=[-6, -2, -1]", "apply=[-4, -1]", "bind=[-4, -2, -1]", "copy=[-1]", "count=[-2]",
        "ends=[-6, -2, -1]", "fault=[-6]", "most=[-2, -1]", "named=[-1]", "of=[-6, -2, -1]", "part=[-6, -2, -1]",
        "put=[-4, -2]", "read=[-3, -1]", "restore=[-5, -2]", "run=[-2, -1]", "same=[-1]", "save=[-2]",
        "step=[-5, -4, -2, -1]", "undo=[-5]"
    };

    private final Map<String, TreeSet<Integer>> belowZero;
    private final Check check;
    private final int run;
    private long seed;
    private int calls;
    private CountedTerms x;
    private ReferenceTerms y;

    private ReferenceTest(Check check, Map<String, TreeSet<Integer>> belowZero, int run) {
        this.check = check;
        this.belowZero = belowZero;
        this.run = run;
        seed = run * 7919L;
    }

    public static void main(String[] args) {
        Check check = new Check("ReferenceTest");
        Map<String, TreeSet<Integer>> belowZero = new TreeMap<>();
        for (int run = 1; run <= 300; run++) {
            new ReferenceTest(check, belowZero, run).compareRun();
        }
        check.due("what was answered below 0", belowZero.toString(), "{" + String.join(", ", BELOW_ZERO) + "}");
        check.finish();
    }

    private int pick(int bound) {
        seed = seed * 6364136223846793005L + 1442695040888963407L;
        return (int) ((seed >>> 33) % bound);
    }

    /** Mostly a register that there is. */
    private int register() {
        return pick(40) == 0 ? pick(2) * 7 - 1 : pick(6);
    }

    private int order() {
        return pick(40) == 0 ? pick(2) * 4 - 1 : pick(3);
    }

    private int fuel() {
        int[] edges = {0, 1, 2, 5, 20, 199, 200, 201};
        return pick(3) == 0 ? edges[pick(8)] : 1 + pick(60);
    }

    private String term(int parts, int around) {
        if (parts <= 1) {
            return around > 0 && pick(4) != 0 ? "" + pick(Math.min(around, 10)) : "" + (char) ('a' + pick(6));
        }
        if (parts == 2 || pick(5) < 2) {
            return "L" + term(parts - 1, around + 1);
        }
        int first = 1 + pick(parts - 2);
        if (first > 1 && pick(2) == 0) {
            return "@L" + term(first - 1, around + 1) + term(parts - 1 - first, around);
        }
        return "@" + term(first, around) + term(parts - 1 - first, around);
    }

    private String text() {
        String text = pick(4) == 0 ? KNOWN[pick(KNOWN.length)] : term(1 + pick(60), 0);
        if (pick(8) == 0) {
            int place = pick(text.length());
            text = text.substring(0, place) + "L@0129afgK/:!~".charAt(pick(14)) + text.substring(place + pick(2));
        }
        return text;
    }

    private boolean mayCall() {
        return calls < MOST_CALLS;
    }

    private void same(String call, int got, int want) {
        calls++;
        if (got < 0) {
            belowZero.computeIfAbsent(call.replaceAll("\\W.*", ""), method -> new TreeSet<>()).add(got);
        }
        check.due("run " + run + ", call " + calls + ": " + call, got, want);
    }

    private void put(long number) {
        same("put(" + number + ")", x.put(number), y.put(number));
    }

    private void write() {
        String text = text();
        for (int i = 0; i < text.length() && mayCall(); i += 8) {
            put(Check.packed(text.substring(i, Math.min(i + 8, text.length()))));
        }
    }

    private void wipe() {
        same("wipe()", x.wipe(), y.wipe());
    }

    private void fault() {
        same("fault()", x.fault(), y.fault());
    }

    private void readSome() {
        if (pick(8) != 0 && mayCall()) {
            wipe();
        }
        write();
        if (pick(3) == 0 && mayCall()) {
            fault();
        }
        if (mayCall()) {
            int register = register();
            same("read(" + register + ")", x.read(register), y.read(register));
        }
    }

    private void change() {
        int a = register();
        int b = register();
        int c = register();
        int order = order();
        int fuel = fuel();
        int constant = pick(8) - 1;
        switch (pick(9)) {
            case 0 -> same("copy " + a + " " + b, x.copy(a, b), y.copy(a, b));
            case 1, 2 -> same("apply " + a + " " + b + " " + c, x.apply(a, b, c), y.apply(a, b, c));
            case 3, 4 -> same("bind " + a + " " + constant + " " + b, x.bind(a, constant, b), y.bind(a, constant, b));
            case 5, 6, 7 -> same("step " + a + " " + order, x.step(a, order), y.step(a, order));
            default -> same("run " + a + " " + order + " " + fuel, x.run(a, order, fuel), y.run(a, order, fuel));
        }
    }

    /** Mostly a place that there is: short terms are more frequent than long ones. */
    private int place() {
        int[] bounds = {4, 25, 60, 210, 410};
        return pick(bounds[pick(5)]) - 1;
    }

    private void question() {
        int a = register();
        int b = register();
        int what = pick(13) - 1;
        int place = place();
        switch (pick(7)) {
            case 0, 1 -> same("of " + a + " " + what, x.of(a, what), y.of(a, what));
            case 2, 3 -> same("part " + a + " " + place + " " + what / 2, x.part(a, place, what / 2), y.part(a, place, what / 2));
            case 4 -> same("named " + a + " " + place, x.named(a, place), y.named(a, place));
            case 5 -> same("same " + a + " " + b, x.same(a, b), y.same(a, b));
            default -> same("count " + what / 2, x.count(what / 2), y.count(what / 2));
        }
    }

    private void trial() {
        int a = register();
        int b = register();
        int order = order();
        int fuel = fuel();
        switch (pick(4)) {
            case 0 -> same("ends " + a + " " + order + " " + fuel, x.ends(a, order, fuel), y.ends(a, order, fuel));
            case 1 -> same("agree " + a + " " + fuel, x.agree(a, fuel), y.agree(a, fuel));
            case 2 -> same("most " + a + " " + order + " " + fuel, x.most(a, order, fuel), y.most(a, order, fuel));
            default -> same("alike " + a + " " + b + " " + fuel, x.alike(a, b, fuel), y.alike(a, b, fuel));
        }
    }

    private void undo() {
        same("undo", x.undo(), y.undo());
    }

    private void restore(int slot) {
        same("restore " + slot, x.restore(slot), y.restore(slot));
    }

    private void history() {
        int slot = pick(12) == 0 ? pick(2) * 3 - 1 : pick(2);
        switch (pick(4)) {
            case 0, 1 -> undo();
            case 2 -> same("save " + slot, x.save(slot), y.save(slot));
            default -> restore(slot);
        }
    }

    private void wrongText() {
        switch (pick(3)) {
            case 0 -> put(pick(2) == 0 ? pick(1 << 30) * 7L << pick(40) : pick(200));
            case 1 -> wipe();
            default -> fault();
        }
    }

    private void callSome(int[] mix) {
        int picked = pick(20);
        for (int group = 0; group < mix.length; group++) {
            if (picked < mix[group]) {
                switch (group) {
                    case 0 -> history();
                    case 1 -> trial();
                    case 2 -> question();
                    case 3 -> wrongText();
                    default -> readSome();
                }
                return;
            }
            picked -= mix[group];
        }
        change();
    }

    /** Looks at each register: at what tells its whole term best, and at some of its parts. */
    private void lookThrough() {
        for (int register = 0; register < 6 && mayCall(); register++) {
            int size = Math.max(y.of(register, 0), 1);
            int place = pick(size);
            switch (pick(4)) {
                case 0 -> same("of " + register + " 0", x.of(register, 0), y.of(register, 0));
                case 1 -> same("part " + register + " " + place + " 0", x.part(register, place, 0), y.part(register, place, 0));
                case 2 -> same("part " + register + " " + place + " 1", x.part(register, place, 1), y.part(register, place, 1));
                default -> same("named " + register + " " + place, x.named(register, place), y.named(register, place));
            }
        }
    }

    private void compareRun() {
        x = new CountedTerms();
        y = new ReferenceTerms();
        while (calls < MOST_CALLS - LAST_LOOK) {
            callSome(MIXES[run % MIXES.length]);
        }
        // Then all that is kept: what is now, each state of the history, the slots.
        for (int back = 0; back <= 7 && mayCall(); back++) {
            lookThrough();
            if (mayCall()) {
                undo();
            }
        }
        for (int slot = 0; slot < 2 && mayCall(); slot++) {
            restore(slot);
            lookThrough();
        }
        while (mayCall()) {
            question();
        }
        check.due("run " + run + ": calls", calls, MOST_CALLS);
    }
}
