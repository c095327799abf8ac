/** Each refused call: its error code, the order of the checks, and that it leaves everything as it was. */
public final class RefusalsTest {
    private static final Check CHECK = new Check("RefusalsTest");
    private static final int NO_SUCH = -1, BAD_VALUE = -2, BAD_TEXT = -3, TOO_MANY = -4, NOT_POSSIBLE = -5, NONE = -6;
    private static final int[] NO_REGISTERS = {-1, 6, Integer.MIN_VALUE, Integer.MAX_VALUE};
    private static final int[] NO_ORDERS = {-1, 3, Integer.MIN_VALUE, Integer.MAX_VALUE};
    private static final int[] NO_FUELS = {0, -1, 201, Integer.MIN_VALUE, Integer.MAX_VALUE};

    /** A new object, one with a full history, and one with the longest terms and a full pad. */
    private enum Kind { FRESH, BUSY, LONG }

    private static final String[] UNTOUCHED = {
        everything(make(Kind.FRESH)), everything(make(Kind.BUSY)), everything(make(Kind.LONG))
    };

    private interface Call {
        int on(CountedTerms x);
    }

    public static void main(String[] args) {
        whatIsSeen();
        read();
        copy();
        apply();
        bind();
        step();
        run();
        of();
        part();
        named();
        same();
        count();
        endsAndMost();
        agree();
        alike();
        put();
        undo();
        slots();
        CHECK.finish();
    }

    private static CountedTerms make(Kind kind) {
        return kind == Kind.FRESH ? new CountedTerms() : kind == Kind.BUSY ? busy() : withLong();
    }

    /** Register 1 is at rest, register 3 by WEAK alone; slot 1 and one state more than six are not kept. */
    private static CountedTerms busy() {
        CountedTerms x = Check.with("@L@00b", "LL1");
        x.save(0);
        x.bind(1, 0, 2);
        Check.write(x, "L@L0c");
        x.read(3);
        x.apply(1, 5, 4);
        x.bind(5, 0, 5);
        x.copy(0, 2);
        Check.write(x, "@L0");
        return x;
    }

    /** Register 1 is stuck by each order, register 5 has 200 parts and is at rest. */
    private static CountedTerms withLong() {
        CountedTerms x = Check.withLongTerms();
        x.save(1);
        Check.write(x, "L@00");
        x.read(1);
        x.apply(1, 2, 1);
        x.save(0);
        Check.write(x, Check.chain(60));
        return x;
    }

    /** The registers as far as a few calls tell them, the pad and the history. */
    private static String state(CountedTerms x) {
        StringBuilder state = new StringBuilder();
        for (int register = 0; register <= 5; register++) {
            state.append(x.of(register, 0)).append(':');
            int code = x.named(register, 0);
            for (int place = 1; code >= 0 && place <= 5; place++) {
                state.append((char) code);
                code = x.named(register, place);
            }
            state.append(' ');
        }
        return state.append(x.count(2)).append(' ').append(x.fault()).append(' ').append(x.count(3)).append('\n').toString();
    }

    /** All that can be seen by some 400 calls, which use the object up: the state, the history, the slots and the pad's text. */
    private static String everything(CountedTerms x) {
        StringBuilder all = new StringBuilder(state(x));
        for (int i = 0; i < 7 && x.undo() >= 0; i++) {
            all.append(state(x));
        }
        for (int slot = 0; slot <= 1; slot++) {
            if (x.restore(slot) >= 0) {
                all.append("slot ").append(slot).append(' ').append(state(x));
            }
        }
        if (x.fault() != NONE) {
            x.put('f');
        }
        x.read(5);
        return all.append(state(x)).toString();
    }

    private static void refused(String call, int code, Call refused, Kind... kinds) {
        for (Kind kind : kinds) {
            CountedTerms x = make(kind);
            CHECK.due(call + " of " + kind, refused.on(x), code);
            CHECK.due("everything behind " + call + " of " + kind, everything(x), UNTOUCHED[kind.ordinal()]);
        }
    }

    private static void always(String call, int code, Call refused) {
        refused(call, code, refused, Kind.values());
    }

    /** What is compared must tell these objects from what they would be by one call more. */
    private static void whatIsSeen() {
        CHECK.sentence("Terms", "A call that returns an error changes nothing.");
        Call[] seen = {
            x -> x.copy(5, 5), x -> x.put('!'), x -> x.wipe(), x -> x.undo(), x -> x.save(0), x -> x.save(1), x -> x.bind(3, 1, 0)
        };
        for (int i = 0; i < seen.length; i++) {
            CountedTerms x = busy();
            seen[i].on(x);
            CHECK.due("a difference is seen by call " + i, everything(x).equals(UNTOUCHED[Kind.BUSY.ordinal()]) ? 1 : 0, 0);
        }
        CHECK.due("the same is seen twice", everything(busy()), UNTOUCHED[Kind.BUSY.ordinal()]);
    }

    private static void read() {
        CHECK.sentence("Promise 2", "NO_SUCH if there is no such register; BAD_TEXT if the pad has a fault.");
        for (int none : NO_REGISTERS) {
            always("read " + none, NO_SUCH, x -> x.read(none));
        }
        for (int register = 0; register <= 5; register++) {
            int to = register;
            refused("read " + to, BAD_TEXT, x -> x.read(to), Kind.FRESH, Kind.BUSY);
        }
    }

    private static void copy() {
        CHECK.sentence("Promise 3", "NO_SUCH if there is no such register.");
        for (int none : NO_REGISTERS) {
            always("copy from " + none, NO_SUCH, x -> x.copy(none, 0));
            always("copy to " + none, NO_SUCH, x -> x.copy(0, none));
            always("copy from and to " + none, NO_SUCH, x -> x.copy(none, none));
        }
    }

    private static void apply() {
        CHECK.sentence("Promise 4", "NO_SUCH if there is no such register; TOO_MANY if it would have more than 200.");
        for (int none : NO_REGISTERS) {
            for (int register : new int[] {0, 5}) {
                always("apply " + none, NO_SUCH, x -> x.apply(none, register, register));
                always("apply to " + none, NO_SUCH, x -> x.apply(register, none, register));
                always("apply for " + none, NO_SUCH, x -> x.apply(register, register, none));
            }
            always("apply all " + none, NO_SUCH, x -> x.apply(none, none, none));
        }
        refused("apply to 201", TOO_MANY, x -> x.apply(2, 2, 0), Kind.LONG);
        refused("apply to 201 in its own register", TOO_MANY, x -> x.apply(2, 2, 2), Kind.LONG);
        refused("apply to 401", TOO_MANY, x -> x.apply(5, 5, 5), Kind.LONG);
        refused("apply a long one", TOO_MANY, x -> x.apply(5, 0, 1), Kind.LONG);
        refused("apply to a long one", TOO_MANY, x -> x.apply(0, 5, 1), Kind.LONG);
    }

    private static void bind() {
        CHECK.sentence("Promise 5", "NO_SUCH if there is no such register; BAD_VALUE if constant is out of range; TOO_MANY if it would have more than 200 parts.");
        for (int none : NO_REGISTERS) {
            always("bind " + none, NO_SUCH, x -> x.bind(none, 0, 5));
            always("bind for " + none, NO_SUCH, x -> x.bind(5, 0, none));
            for (int constant : new int[] {-1, 6}) {
                always("bind " + none + " and constant " + constant, NO_SUCH, x -> x.bind(none, constant, 5));
                always("bind constant " + constant + " for " + none, NO_SUCH, x -> x.bind(5, constant, none));
            }
        }
        for (int constant : new int[] {-1, 6, Integer.MIN_VALUE, Integer.MAX_VALUE}) {
            always("bind constant " + constant, BAD_VALUE, x -> x.bind(0, constant, 1));
            always("bind constant " + constant + " in 5", BAD_VALUE, x -> x.bind(5, constant, 5));
        }
        for (int constant = 0; constant <= 5; constant++) {
            int bound = constant;
            refused("bind " + bound + " of 200 parts", TOO_MANY, x -> x.bind(5, bound, 0), Kind.LONG);
            refused("bind " + bound + " of 200 parts where they are", TOO_MANY, x -> x.bind(5, bound, 5), Kind.LONG);
        }
    }

    private static void step() {
        CHECK.sentence("Promise 6", "NO_SUCH if there is no such register; BAD_VALUE if order is out of range; NOT_POSSIBLE if it is at rest by this order; TOO_MANY if it is stuck.");
        for (int none : NO_REGISTERS) {
            always("step " + none, NO_SUCH, x -> x.step(none, 0));
            always("step " + none + " by 3", NO_SUCH, x -> x.step(none, 3));
            always("step " + none + " by -1", NO_SUCH, x -> x.step(none, -1));
        }
        for (int order : NO_ORDERS) {
            always("step by " + order, BAD_VALUE, x -> x.step(0, order));
            always("step at rest, or stuck, by " + order, BAD_VALUE, x -> x.step(1, order));
        }
        for (int order = 0; order <= 2; order++) {
            int by = order;
            refused("step at rest by " + by, NOT_POSSIBLE, x -> x.step(1, by), Kind.FRESH, Kind.BUSY);
            refused("step at rest by " + by, NOT_POSSIBLE, x -> x.step(5, by), Kind.LONG);
            refused("step of stuck by " + by, TOO_MANY, x -> x.step(1, by), Kind.LONG);
        }
        refused("step at rest by WEAK alone", NOT_POSSIBLE, x -> x.step(3, 2), Kind.BUSY);
    }

    private static void run() {
        CHECK.sentence("Promise 7", "NO_SUCH if there is no such register; BAD_VALUE if another argument is out of range.");
        for (int none : NO_REGISTERS) {
            always("run " + none, NO_SUCH, x -> x.run(none, 0, 1));
            always("run " + none + " by 3", NO_SUCH, x -> x.run(none, 3, 1));
            always("run " + none + " with 0", NO_SUCH, x -> x.run(none, 0, 0));
            always("run " + none + " by -1 with 201", NO_SUCH, x -> x.run(none, -1, 201));
        }
        for (int order : NO_ORDERS) {
            always("run by " + order, BAD_VALUE, x -> x.run(0, order, 1));
            always("run by " + order + " with 0", BAD_VALUE, x -> x.run(1, order, 0));
        }
        for (int fuel : NO_FUELS) {
            for (int order = 0; order <= 2; order++) {
                int by = order;
                always("run by " + by + " with " + fuel, BAD_VALUE, x -> x.run(0, by, fuel));
            }
        }
    }

    private static void of() {
        CHECK.sentence("Promise 8", "NO_SUCH if there is no such register; BAD_VALUE if what is out of range.");
        for (int none : NO_REGISTERS) {
            for (int what = -1; what <= 11; what++) {
                int asked = what;
                always("of " + none + ", " + asked, NO_SUCH, x -> x.of(none, asked));
            }
        }
        for (int what : new int[] {-1, 11, Integer.MIN_VALUE, Integer.MAX_VALUE}) {
            always("of 0, " + what, BAD_VALUE, x -> x.of(0, what));
        }
    }

    private static void part() {
        CHECK.sentence("Promise 9", "NO_SUCH if there is no such register or part; BAD_VALUE if what is out of range.");
        for (int none : NO_REGISTERS) {
            for (int what = -1; what <= 5; what++) {
                int asked = what;
                always("part 0 of " + none + ", " + asked, NO_SUCH, x -> x.part(none, 0, asked));
                always("part -1 of " + none + ", " + asked, NO_SUCH, x -> x.part(none, -1, asked));
            }
        }
        for (int place : new int[] {-1, 200, Integer.MIN_VALUE, Integer.MAX_VALUE}) {
            for (int what = -1; what <= 5; what++) {
                int asked = what;
                always("part " + place + ", " + asked, NO_SUCH, x -> x.part(5, place, asked));
            }
        }
        refused("part 1 of 1", NO_SUCH, x -> x.part(5, 1, 0), Kind.FRESH);
        refused("part 2 of 2", NO_SUCH, x -> x.part(5, 2, 0), Kind.BUSY);
        refused("part 6 of 6", NO_SUCH, x -> x.part(2, 6, 5), Kind.BUSY);
        refused("part 199 of 199", NO_SUCH, x -> x.part(4, 199, 0), Kind.LONG);
        for (int what : new int[] {-1, 5, Integer.MIN_VALUE, Integer.MAX_VALUE}) {
            always("part 0, " + what, BAD_VALUE, x -> x.part(0, 0, what));
        }
    }

    private static void named() {
        CHECK.sentence("Promise 10", "NO_SUCH if there is no such register or character.");
        for (int none : NO_REGISTERS) {
            always("named 0 of " + none, NO_SUCH, x -> x.named(none, 0));
            always("named -1 of " + none, NO_SUCH, x -> x.named(none, -1));
        }
        for (int place : new int[] {-1, 201, 400, Integer.MIN_VALUE, Integer.MAX_VALUE}) {
            always("named " + place, NO_SUCH, x -> x.named(5, place));
        }
        refused("named 1 of 1", NO_SUCH, x -> x.named(5, 1), Kind.FRESH);
        refused("named 3 of 3", NO_SUCH, x -> x.named(5, 3), Kind.BUSY);
    }

    private static void same() {
        CHECK.sentence("Promise 11", "NO_SUCH if there is no such register.");
        for (int none : NO_REGISTERS) {
            always("same " + none + " and 0", NO_SUCH, x -> x.same(none, 0));
            always("same 0 and " + none, NO_SUCH, x -> x.same(0, none));
            always("same " + none + " twice", NO_SUCH, x -> x.same(none, none));
        }
    }

    private static void count() {
        CHECK.sentence("Promise 12", "BAD_VALUE if what is out of range.");
        for (int what : new int[] {-1, 4, Integer.MIN_VALUE, Integer.MAX_VALUE}) {
            always("count " + what, BAD_VALUE, x -> x.count(what));
        }
    }

    private static void endsAndMost() {
        CHECK.sentence("Promise 13", "NO_SUCH if there is no such register; BAD_VALUE if another argument is out of range");
        for (int none : NO_REGISTERS) {
            always("ends of " + none, NO_SUCH, x -> x.ends(none, 0, 1));
            always("ends of " + none + " by 3", NO_SUCH, x -> x.ends(none, 3, 1));
            always("ends of " + none + " with 201", NO_SUCH, x -> x.ends(none, 0, 201));
        }
        for (int order : NO_ORDERS) {
            always("ends by " + order, BAD_VALUE, x -> x.ends(1, order, 1));
            always("ends by " + order + " with 0", BAD_VALUE, x -> x.ends(0, order, 0));
        }
        for (int fuel : NO_FUELS) {
            always("ends with " + fuel, BAD_VALUE, x -> x.ends(1, 0, fuel));
        }
        CHECK.sentence("Promise 15", "NO_SUCH if there is no such register; BAD_VALUE if another argument is out of range.");
        for (int none : NO_REGISTERS) {
            always("most of " + none, NO_SUCH, x -> x.most(none, 0, 1));
            always("most of " + none + " by 3", NO_SUCH, x -> x.most(none, 3, 1));
            always("most of " + none + " with 201", NO_SUCH, x -> x.most(none, 0, 201));
        }
        for (int order : NO_ORDERS) {
            always("most by " + order, BAD_VALUE, x -> x.most(1, order, 1));
            always("most by " + order + " with 0", BAD_VALUE, x -> x.most(0, order, 0));
        }
        for (int fuel : NO_FUELS) {
            always("most with " + fuel, BAD_VALUE, x -> x.most(1, 0, fuel));
        }
    }

    private static void agree() {
        CHECK.sentence("Promise 14", "NO_SUCH if there is no such register; BAD_VALUE if fuel is out of range; NONE if one of both would not come to rest");
        for (int none : NO_REGISTERS) {
            always("agree of " + none, NO_SUCH, x -> x.agree(none, 1));
            always("agree of " + none + " with 0", NO_SUCH, x -> x.agree(none, 0));
            always("agree of " + none + " with 201", NO_SUCH, x -> x.agree(none, 201));
        }
        for (int fuel : NO_FUELS) {
            always("agree with " + fuel, BAD_VALUE, x -> x.agree(0, fuel));
            always("agree with " + fuel + " at rest, or stuck", BAD_VALUE, x -> x.agree(1, fuel));
        }
    }

    private static void alike() {
        CHECK.sentence("Promise 16", "NO_SUCH if there is no such register; BAD_VALUE if fuel is out of range; NONE if one of both would not come to rest");
        for (int none : NO_REGISTERS) {
            for (int fuel : new int[] {0, 1, 200, 201}) {
                always("alike " + none + " with " + fuel, NO_SUCH, x -> x.alike(none, 0, fuel));
                always("alike to " + none + " with " + fuel, NO_SUCH, x -> x.alike(0, none, fuel));
                always("alike twice " + none + " with " + fuel, NO_SUCH, x -> x.alike(none, none, fuel));
            }
        }
        for (int fuel : NO_FUELS) {
            always("alike with " + fuel, BAD_VALUE, x -> x.alike(0, 5, fuel));
            always("alike with " + fuel + " at rest, or stuck", BAD_VALUE, x -> x.alike(1, 0, fuel));
        }
    }

    private static void put() {
        CHECK.sentence("Promise 17", "or a bit above 8 bits that are 0 is not 0; TOO_MANY if the pad would be longer than 60.");
        long[] bad = {0, 1, 32, 127, 255, 256, 'a' << 8, 'a' << 16 | 'a', 1L << 63 | 'a', 1L << 32 | 'a', -1, Long.MIN_VALUE, Long.MAX_VALUE};
        for (long number : bad) {
            always("put " + number, BAD_VALUE, x -> x.put(number));
        }
        for (String text : new String[] {"a", "ab", "abcdefab", "~"}) {
            refused("put " + text, TOO_MANY, x -> x.put(Check.packed(text)), Kind.LONG);
        }
        for (String text : new String[] {" ", "a ", " a", "abcdefa ", " bcdefab", "abc\u007f"}) {
            always("put '" + text + "'", BAD_VALUE, x -> x.put(Check.packed(text)));
        }
    }

    private static void undo() {
        CHECK.sentence("Promise 20", "NOT_POSSIBLE if there is none.");
        refused("undo", NOT_POSSIBLE, x -> x.undo(), Kind.FRESH);
    }

    private static void slots() {
        CHECK.sentence("Promise 21", "BAD_VALUE if there is no such slot.");
        for (int slot : new int[] {-1, 2, Integer.MIN_VALUE, Integer.MAX_VALUE}) {
            always("save " + slot, BAD_VALUE, x -> x.save(slot));
        }
        CHECK.sentence("Promise 22", "BAD_VALUE if there is no such slot; NOT_POSSIBLE if nothing was saved in it.");
        for (int slot : new int[] {-1, 2, Integer.MIN_VALUE, Integer.MAX_VALUE}) {
            always("restore " + slot, BAD_VALUE, x -> x.restore(slot));
        }
        refused("restore 0", NOT_POSSIBLE, x -> x.restore(0), Kind.FRESH);
        refused("restore 1", NOT_POSSIBLE, x -> x.restore(1), Kind.FRESH, Kind.BUSY);
    }
}
