/** The document's part on rewriting: what comes in the place of an application, and by which order. */
public final class RewritingTest {
    private static final Check CHECK = new Check("RewritingTest");

    public static void main(String[] args) {
        variables();
        orders();
        greatVariables();
        numbers();
        CHECK.finish();
    }

    private static void stepIs(String text, int order, String result) {
        CountedTerms x = Check.with(text);
        x.step(0, order);
        CHECK.due("a step of " + text + " by " + order, Check.text(x, 0), result);
    }

    private static void variables() {
        stepIs("@L0a", 0, "a");
        stepIs("@Lba", 0, "b");
        stepIs("@LL1a", 0, "La");
        stepIs("@LL0a", 0, "L0");
        stepIs("@LL@01@ab", 0, "L@0@ab");
        // What is bound outside of the application is counted anew: in the body, and in the argument.
        stepIs("LL@L@@0120", 0, "LL@@001");
        stepIs("LL@L@@012@10", 0, "LL@@@1001");
        stepIs("LL@LLL@@@@012341", 0, "LLLL@@@@01323");
        stepIs("LL@LL@@1231", 0, "LLL@@212");
        stepIs("L@LL@1LL@32@0L@01", 0, "LL@@1L@02LL@@3L@042");
        stepIs("L@L@0L10", 0, "L@0L1");
        // A variable that is bound within the argument stays.
        stepIs("L@LL1L@01", 0, "LLL@02");
        stepIs("@LL1LL@01", 0, "LLL@01");
        // What stands ahead and behind stays.
        stepIs("L@@0@L0b0", 0, "L@@0b0");
        stepIs("@a@@L@00bc", 0, "@a@@bbc");
    }

    private static void orders() {
        stepIs("@L@00@L0a", 0, "@@L0a@L0a");
        stepIs("@L@00@L0a", 1, "@L@00a");
        stepIs("@L@00@L0a", 2, "@@L0a@L0a");
        stepIs("@aL@L0b", 2, "@aL@L0b");
        stepIs("@aL@L0b", 1, "@aLb");
        stepIs("@@aL@L0b@L0c", 2, "@@aL@L0bc");
        stepIs("@@aL@L0b@L0c", 0, "@@aLb@L0c");
        stepIs("@@aL@L0b@L0c", 1, "@@aLb@L0c");
        stepIs("@L@L0a@@L0b@L0c", 1, "@La@@L0b@L0c");
    }

    private static void greatVariables() {
        CountedTerms x = Check.with("LL@@1a@0b");
        for (int i = 0; i < 190; i++) {
            x.bind(0, i < 189 ? 5 : 0, 0);
        }
        CHECK.due("a term with many L", x.of(0, 0), 199);
        CHECK.due("its greatest variable", x.of(0, 10), 191);
        x = Check.with("LLLLLLLLLLLL@L@0a9");
        for (int i = 0; i < 180; i++) {
            x.bind(0, i < 179 ? 5 : 0, 0);
        }
        CHECK.due("its parts", x.of(0, 0), 198);
        CHECK.due("its greatest variable", x.of(0, 10), 192);
        CHECK.due("a step within", x.step(0, 1), 195);
        CHECK.due("the variable of the first L", x.part(0, 194, 4), 0);
        CHECK.due("its number", x.of(0, 10), 191);
    }

    private static void numbers() {
        // Two to the third, as functions: 2 3 = 9 applications, 3 2 = 8, and both sums agree.
        CountedTerms x = Check.with("LL@1@10", "LL@1@1@10", "LLLL@@31@@210");
        x.apply(0, 1, 3);
        x.run(3, 0, 200);
        CHECK.due("3 to the 2nd", Check.text(x, 3), "LL@1@1@1@1@1@1@1@1@10");
        x.apply(1, 0, 4);
        CHECK.due("agree", x.agree(4, 200), 1);
        x.run(4, 1, 200);
        CHECK.due("2 to the 3rd", Check.text(x, 4), "LL@1@1@1@1@1@1@1@10");
        x = Check.with("LL@1@10", "LL@1@1@10", "LLLL@@31@@210");
        x.apply(2, 0, 3);
        x.apply(3, 1, 3);
        x.run(3, 0, 200);
        CHECK.due("2 and 3", Check.text(x, 3), "LL@1@1@1@1@10");
    }
}
