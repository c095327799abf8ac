/** The document's part on rewriting: each sentence that names a limit. */
public final class RewritingLimitsTest {
    private static final Check CHECK = new Check("RewritingLimitsTest");
    private static final int TOO_MANY = -4, NOT_POSSIBLE = -5, NONE = -6;

    public static void main(String[] args) {
        reduciblePlaces();
        boundByThisL();
        argumentsOutside();
        argumentsFarOutside();
        becomesLess();
        staysAsItIs();
        outer();
        inner();
        weak();
        atRest();
        stuckByOneOrder();
        stuckAsAWhole();
        CHECK.finish();
    }

    private static void due(String call, long got, long want) {
        CHECK.due(call, got, want);
    }

    private static void stepIs(String text, int order, String result) {
        CountedTerms x = Check.with(text);
        due("the changes behind " + text, x.count(3), 1);
        x.step(0, order);
        CHECK.due("a step of " + text + " by " + order, Check.text(x, 0), result);
    }

    private static void reducibleIs(String text, int places, int first) {
        CountedTerms x = Check.with(text);
        due("the reducible places of " + text, x.of(0, 6), places);
        due("the first of " + text, x.of(0, 7), first);
    }

    private static void reduciblePlaces() {
        CHECK.sentence("Terms", "A reducible place is that of an application whose first term is a function.");
        reducibleIs("a", 0, NONE);
        reducibleIs("L0", 0, NONE);
        reducibleIs("@aL0", 0, NONE);
        reducibleIs("L@0L0", 0, NONE);
        reducibleIs("@@aL0L0", 0, NONE);
        reducibleIs("@L0a", 1, 0);
        reducibleIs("@L0L0", 1, 0);
        reducibleIs("@@L0ab", 1, 1);
        reducibleIs("@@@L0abc", 1, 2);
        reducibleIs("L@L0a", 1, 1);
        reducibleIs("@L@L0a@L0b", 3, 0);
    }

    private static void boundByThisL() {
        CHECK.sentence("Terms", "each variable that the L of this function binds is replaced by the argument");
        stepIs("@Lba", 0, "b");
        stepIs("@L0a", 0, "a");
        stepIs("@L@00a", 0, "@aa");
        stepIs("@L@0@0@00@bc", 0, "@@bc@@bc@@bc@bc");
        stepIs("@LL0a", 0, "L0");
        stepIs("@LL1a", 0, "La");
        stepIs("@LLL@@012a", 0, "LL@@01a");
        stepIs("L@LL@@012a", 0, "LL@@0a1");
        stepIs("@LLLLLLLLLL9a", 0, "LLLLLLLLLa");
        stepIs("@LLLLLLLLLL8a", 0, "LLLLLLLLL8");
    }

    private static void argumentsOutside() {
        CHECK.sentence("Terms", "each variable that is bound by an L outside the argument becomes greater by the number of L of the body");
        stepIs("L@L00", 0, "L0");
        stepIs("L@LL10", 0, "LL1");
        stepIs("L@LLL20", 0, "LLL2");
        stepIs("LL@LL11", 0, "LLL2");
        stepIs("L@L@@0L1LL20", 0, "L@@0L1LL2");
        // What is bound within the argument does not become greater, on either side of its L.
        stepIs("@LL1L0", 0, "LL0");
        stepIs("L@LL1L0", 0, "LLL0");
        stepIs("L@LL1L1", 0, "LLL2");
        stepIs("L@LL1LL@@012", 0, "LLLL@@013");
        stepIs("L@LL1@0L@01", 0, "LL@1L@02");
        // L around the body's places alone count, not those that stand beside them.
        stepIs("L@L@L00b", 0, "L@L0b");
        stepIs("L@L@L0@0L10", 0, "L@L0@0L1");
    }

    private static void argumentsFarOutside() {
        CHECK.sentence("Terms", "becomes greater by the number of L");
        CountedTerms x = Check.with("L".repeat(59) + "e", "c");
        Check.deepen(x, 0, 91);
        due("151 parts", x.of(0, 0), 151);
        due("bind from behind 150 L", x.bind(0, 4, 0), 1);
        due("applied to a constant", x.apply(0, 1, 2), 154);
        due("that becomes bound", x.bind(2, 2, 2), 1);
        due("the step", x.step(2, 0), 152);
        due("the variable", x.of(2, 10), 150);
        due("the L that binds it", x.part(2, 151, 4), 0);
    }

    private static void becomesLess() {
        CHECK.sentence("Terms", "each variable that is bound by an L outside of the application becomes less by 1");
        stepIs("L@L1a", 0, "L0");
        stepIs("LL@L2a", 0, "LL1");
        stepIs("LL@L1a", 0, "LL0");
        stepIs("L@LL2a", 0, "LL1");
        stepIs("LLLLLLLLL@L9a", 0, "LLLLLLLLL8");
        stepIs("L@L@1L2a", 0, "L@0L1");
        // But not in the argument, nor beside the application.
        stepIs("L@L00", 0, "L0");
        stepIs("L@0@L1a", 0, "L@00");
        stepIs("LL@1@L2a", 0, "LL@11");
        stepIs("LL@@L2a1", 0, "LL@11");
    }

    private static void staysAsItIs() {
        CHECK.sentence("Terms", "- all else stays.");
        stepIs("@L@@@@@abcdef@ab", 0, "@@@@@abcdef");
        stepIs("@L@@@@@abcdefL0", 0, "@@@@@abcdef");
        stepIs("@@c@L0a@dLL@01", 0, "@@ca@dLL@01");
        stepIs("L@@0@L0fL@01", 0, "L@@0fL@01");
        stepIs("L@@0@L0f@L00", 0, "L@@0f@L00");
    }

    private static void nextIs(int order, String text, int place) {
        CountedTerms x = Check.with(text);
        due("what comes next in " + text, x.of(0, 7 + order), place);
    }

    private static void outer() {
        CHECK.sentence("Terms", "OUTER (0): the one that stands first in the row of parts.");
        nextIs(0, "@L@L0a@L0b", 0);
        nextIs(0, "@@L0a@L0b", 1);
        nextIs(0, "@a@L0b", 2);
        nextIs(0, "@@aL@L0b@L0c", 4);
        nextIs(0, "LL@L0a", 2);
        nextIs(0, "@aL0", NONE);
    }

    private static void inner() {
        CHECK.sentence("Terms", "INNER (1): of those that have no reducible place within their first term or their argument, the one that stands first.");
        nextIs(1, "@L0a", 0);
        nextIs(1, "@L@L0aa", 2);
        nextIs(1, "@L0@L0a", 3);
        nextIs(1, "@L@L0a@L0b", 2);
        nextIs(1, "@@L0a@L0b", 1);
        nextIs(1, "@@L0a@L0@L0b", 1);
        nextIs(1, "@L0@@L0a@L0b", 4);
        nextIs(1, "@L0@L0@L0a", 6);
        nextIs(1, "@L0LL@L0a", 5);
        nextIs(1, "@LL@L0aL@L0b", 3);
        nextIs(1, "@a@L0L@L0b", 6);
        nextIs(1, "@aL0", NONE);
    }

    private static void weak() {
        CHECK.sentence("Terms", "WEAK (2): of those that have no L around them, the one that stands first.");
        nextIs(2, "@L0a", 0);
        nextIs(2, "@L@L0a@L0b", 0);
        nextIs(2, "@@aL@L0b@L0c", 8);
        nextIs(2, "@a@b@L0c", 4);
        nextIs(2, "@@L0a@L0b", 1);
        nextIs(2, "L@L0a", NONE);
        nextIs(2, "@aL@L0b", NONE);
        nextIs(2, "@aLL@L0b", NONE);
    }

    private static void atRest() {
        CHECK.sentence("Terms", "A term is at rest by an order if it has no reducible place that can come next.");
        CountedTerms x = Check.with("L@L0a", "@L0a", "@aL0");
        due("by OUTER", x.ends(0, 0, 9), 1);
        due("by INNER", x.ends(0, 1, 9), 1);
        due("by WEAK", x.ends(0, 2, 9), 0);
        due("a step by WEAK", x.step(0, 2), NOT_POSSIBLE);
        due("at rest by OUTER", x.count(1), 0b111100);
        due("a step by OUTER", x.step(0, 0), 2);
        due("at rest by OUTER", x.count(1), 0b111101);
        for (int order = 0; order <= 2; order++) {
            due("one place left by " + order, x.ends(1, order, 9), 1);
            due("no place left by " + order, x.ends(2, order, 9), 0);
        }
    }

    private static void stuckByOneOrder() {
        CHECK.sentence("Terms", "(it is stuck)");
        CountedTerms x = Check.withLongTerms();
        Check.write(x, "L@00");
        x.read(0);
        Check.write(x, "Lb");
        x.read(1);
        // A place of 105 parts that would have 201 behind a step, within an argument that goes.
        due("105 parts", x.apply(0, 2, 0), 105);
        due("108 parts", x.apply(1, 0, 0), 108);
        due("stuck by INNER", x.step(0, 1), TOO_MANY);
        due("stuck by INNER in a run", x.run(0, 1, 200), 0);
        due("stuck by INNER, no end", x.ends(0, 1, 200), NONE);
        due("the end by OUTER", x.ends(0, 0, 200), 1);
        due("a step by OUTER", x.step(0, 0), 1);
        CHECK.holds(x, 0, "b");
    }

    private static void stuckAsAWhole() {
        CHECK.sentence("Terms", "it is not done if the term had more than 200 parts then");
        for (int ahead = 88; ahead <= 90; ahead++) {
            // A place of 10 parts that has 11 behind a step, beside 99 parts and behind some L.
            CountedTerms x = Check.withLongTerms();
            Check.write(x, "@L@@000@bc");
            x.read(0);
            x.apply(3, 0, 0);
            Check.deepen(x, 0, ahead);
            due("all parts", x.of(0, 0), 110 + ahead);
            due("a step behind " + ahead + " L", x.step(0, 0), ahead < 90 ? 111 + ahead : TOO_MANY);
        }
    }
}
