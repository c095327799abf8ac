/** Promises 8 to 12: of, part, named, same and count. */
public final class QuestionsTest {
    private static final Check CHECK = new Check("QuestionsTest");
    private static final int NO_SUCH = -1, BAD_VALUE = -2, NONE = -6;
    private static final int[] NO_REGISTERS = {-1, 6, Integer.MIN_VALUE, Integer.MAX_VALUE};

    public static void main(String[] args) {
        of();
        orders();
        part();
        named();
        same();
        count();
        CHECK.finish();
    }

    private static void due(String call, long got, long want) {
        CHECK.due(call, got, want);
    }

    private static void ofIs(CountedTerms x, int register, int... answers) {
        for (int what = 0; what < answers.length; what++) {
            due("of(" + register + ", " + what + ")", x.of(register, what), answers[what]);
        }
    }

    private static void of() {
        CountedTerms x = Check.with("b", "L@@L1@aaLL2", "@@L0L0@L0L0", "L@L0a");
        for (int register : NO_REGISTERS) {
            due("of register " + register, x.of(register, 11), NO_SUCH);
        }
        for (int what : new int[] {-1, 11, Integer.MIN_VALUE, Integer.MAX_VALUE}) {
            due("of " + what, x.of(0, what), BAD_VALUE);
        }
        ofIs(x, 0, 1, 0, 0, 0, 1, 0, 0, NONE, NONE, NONE, NONE);
        ofIs(x, 1, 11, 4, 3, 2, 2, 3, 1, 2, 2, NONE, 2);
        ofIs(x, 2, 11, 4, 3, 4, 0, 1, 2, 1, 1, 1, 0);
        ofIs(x, 3, 5, 2, 1, 1, 1, 2, 1, 1, 1, NONE, 0);
        x.apply(3, 3, 4);
        ofIs(x, 4, 11, 4, 3, 2, 2, 2, 3, 0, 2, 0, 0);
        due("of changes nothing", x.count(3), 5);
    }

    private static void nextIs(String text, int outer, int inner, int weak) {
        CountedTerms x = Check.with(text);
        due("OUTER in " + text, x.of(0, 7), outer);
        due("INNER in " + text, x.of(0, 8), inner);
        due("WEAK in " + text, x.of(0, 9), weak);
    }

    private static void orders() {
        nextIs("@L0@L0a", 0, 3, 0);
        nextIs("@L@L00@L0a", 0, 2, 0);
        nextIs("@a@L@L00@L0a", 2, 4, 2);
        nextIs("@L@L00@@L0a@L0a", 0, 2, 0);
        nextIs("L@@L0@L00@L00", 2, 5, NONE);
        nextIs("@L@L0ab", 0, 2, 0);
        nextIs("@@aL@L00@L0a", 4, 4, 8);
        nextIs("@@L0a@L@L00b", 1, 1, 1);
        nextIs("@L@0@L0aL@L00", 0, 4, 0);
        nextIs("@@ab@cd", NONE, NONE, NONE);
    }

    private static void partIs(CountedTerms x, int place, int... answers) {
        for (int what = 0; what < answers.length; what++) {
            due("part(0, " + place + ", " + what + ")", x.part(0, place, what), answers[what]);
        }
    }

    private static void part() {
        CountedTerms x = Check.with("L@@0LL@02f");
        partIs(x, 0, 2, 0, 0, 10, NONE);
        partIs(x, 1, 3, 0, 1, 10, NONE);
        partIs(x, 2, 3, 0, 1, 9, NONE);
        partIs(x, 3, 0, 0, 1, 4, 0);
        partIs(x, 4, 2, 0, 1, 9, NONE);
        partIs(x, 5, 2, 0, 2, 9, NONE);
        partIs(x, 6, 3, 0, 3, 9, NONE);
        partIs(x, 7, 0, 0, 3, 8, 5);
        partIs(x, 8, 0, 2, 3, 9, 0);
        partIs(x, 9, 1, 5, 1, 10, NONE);
        x.apply(0, 0, 1);
        due("the number of an application that was made", x.part(1, 0, 1), 0);
        x.bind(0, 5, 1);
        due("the number of an L that was made", x.part(1, 0, 1), 0);
        for (int register : NO_REGISTERS) {
            due("part of register " + register, x.part(register, 0, 5), NO_SUCH);
        }
        for (int place : new int[] {-1, 10, 200, Integer.MIN_VALUE, Integer.MAX_VALUE}) {
            due("part at " + place, x.part(0, place, 5), NO_SUCH);
        }
        for (int what : new int[] {-1, 5, Integer.MIN_VALUE, Integer.MAX_VALUE}) {
            due("part " + what, x.part(0, 9, what), BAD_VALUE);
        }
    }

    private static void namedIs(String text, String names) {
        CHECK.due(text + " with names", Check.names(Check.with(text), 0), names);
    }

    private static void named() {
        namedIs("a", "a");
        namedIs("L0", "Lgg");
        namedIs("LL@10", "LgLh@gh");
        namedIs("@L@0fLb", "@Lg@gfLgb");
        namedIs("L".repeat(22) + "@@@@@012986", "LgLhLiLjLkLlLmLnLoLpLqLrLsLtLuLvLwLxLyLzLgLh@@@@@hgzstv");
        CountedTerms x = Check.with("L0");
        for (int register : NO_REGISTERS) {
            due("named of register " + register, x.named(register, 0), NO_SUCH);
        }
        for (int place : new int[] {-1, 3, Integer.MIN_VALUE, Integer.MAX_VALUE}) {
            due("named at " + place, x.named(0, place), NO_SUCH);
        }
        for (int i = 0; i < 18; i++) {
            x.bind(0, 0, 0);
        }
        due("the name of the 19th L", x.named(0, 37), 'y');
        x.bind(0, 0, 0);
        due("the name of the 20th L", x.named(0, 39), 'z');
        due("the variable of the 20th L", x.named(0, 40), 'z');
        x.bind(0, 0, 0);
        due("the name of the 21st L", x.named(0, 41), 'g');
        due("the variable of the 21st L", x.named(0, 42), 'g');
        due("behind it", x.named(0, 43), NO_SUCH);
    }

    private static void same() {
        CountedTerms x = Check.with("LL1", "LL1", "LL0", "@LL1a", "a");
        for (int register : NO_REGISTERS) {
            due("same " + register, x.same(register, 0), NO_SUCH);
            due("same as " + register, x.same(0, register), NO_SUCH);
        }
        due("same terms", x.same(0, 1), 1);
        due("the same register", x.same(3, 3), 1);
        due("another variable", x.same(0, 2), 0);
        due("another length", x.same(0, 3), 0);
        due("another length, the other way", x.same(3, 0), 0);
        due("another kind", x.same(5, 2), 0);
        due("the constant a", x.same(4, 5), 1);
        x = Check.with("a", "b", "L0", "La", "@ab", "@ac");
        due("another constant", x.same(0, 1), 0);
        due("a variable and a constant", x.same(2, 3), 0);
        due("another last part", x.same(4, 5), 0);
    }

    private static void count() {
        CountedTerms x = new CountedTerms();
        for (int what : new int[] {-1, 4, Integer.MIN_VALUE, Integer.MAX_VALUE}) {
            due("count " + what, x.count(what), BAD_VALUE);
        }
        Check.write(x, "@L0a");
        due("the pad", x.count(2), 4);
        x.read(1);
        due("the pad", x.count(2), 0);
        Check.write(x, "L@L0a");
        x.read(5);
        due("all parts", x.count(0), 13);
        due("at rest", x.count(1), 0b011101);
        due("changes", x.count(3), 2);
        x.run(1, 0, 1);
        due("at rest", x.count(1), 0b011111);
        due("all parts", x.count(0), 10);
        for (int i = 0; i < 10; i++) {
            x.copy(0, 0);
        }
        due("at most 6 changes", x.count(3), 6);
        x.copy(5, 0);
        due("register 0 not at rest", x.count(1), 0b011110);
    }
}
