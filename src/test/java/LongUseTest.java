/** One object up to its 512th call: changes, questions, texts, undo, save and restore follow each other again and again. */
public final class LongUseTest {
    private static final Check CHECK = new Check("LongUseTest");
    private static final int MOST_CALLS = 512;
    private static final int NO_SUCH = -1, BAD_TEXT = -3, TOO_MANY = -4, NOT_POSSIBLE = -5, NONE = -6;

    private final CountedTerms x = new CountedTerms();
    private String round = "";
    private int calls;

    public static void main(String[] args) {
        new LongUseTest().sameRounds();
        new LongUseTest().manyTexts();
        new LongUseTest().thereAndBack();
        CHECK.finish();
    }

    private void due(String call, long got, long want) {
        calls++;
        CHECK.due(round + call, got, want);
    }

    private void allCallsAreMade() {
        CHECK.due("calls", calls, MOST_CALLS);
    }

    /** Each round of 32 calls begins with new registers, so the 16th one answers as the first one. */
    private void sameRounds() {
        for (int i = 1; i <= 16; i++) {
            round = "round " + i + ": ";
            due("save 1", x.save(1), 6);
            makeTwoOfThree();
            rewrite(i == 1 ? 3 : 5);
            makeTheSameAgain();
            goBack();
        }
        allCallsAreMade();
    }

    private void makeTwoOfThree() {
        due("put", x.put(Check.packed("LL@1@10")), 7);
        due("read 0", x.read(0), 7);
        due("put", x.put(Check.packed("LL@1@1@1")), 8);
        due("put", x.put('0'), 9);
        due("fault", x.fault(), NONE);
        due("read 1", x.read(1), 9);
        due("apply", x.apply(0, 1, 2), 17);
        due("save 0", x.save(0), 36);
    }

    private void rewrite(int left) {
        due("ends", x.ends(2, 0, 200), 8);
        due("agree", x.agree(2, 200), 1);
        due("most", x.most(2, 0, 200), 39);
        due("run", x.run(2, 0, 3), 3);
        due("undo", x.undo(), left);
        due("run", x.run(2, 0, 200), 8);
        due("of", x.of(2, 0), 21);
        due("named", x.named(2, 1), 'g');
    }

    private void makeTheSameAgain() {
        due("bind", x.bind(3, 0, 3), 1);
        due("apply", x.apply(3, 2, 4), 24);
        due("step", x.step(4, 0), 21);
        due("same", x.same(2, 4), 1);
        due("alike", x.alike(2, 4, 1), 1);
        due("at rest", x.count(1), 63);
    }

    private void goBack() {
        due("restore 0", x.restore(0), 36);
        due("all parts", x.count(0), 36);
        due("part", x.part(2, 0, 0), 3);
        due("put", x.put(Check.packed("@x")), 2);
        due("fault", x.fault(), 1);
        due("read", x.read(0), BAD_TEXT);
        due("wipe", x.wipe(), 2);
        due("restore 1", x.restore(1), 6);
        due("changes", x.count(3), 6);
    }

    /** A text for each constant, read over and over: 64 rounds of 8 calls. */
    private void manyTexts() {
        for (int i = 0; i < 64; i++) {
            round = "text " + i + ": ";
            int constant = i % 6;
            int register = i % 5;
            due("put", x.put(Check.packed("@L0")), 3);
            due("fault", x.fault(), 3);
            due("put", x.put('a' + constant), 4);
            due("read", x.read(register), 4);
            due("the pad", x.count(2), 0);
            due("ends", x.ends(register, i % 3, 1), 1);
            due("step", x.step(register, i % 3), 1);
            due("part", x.part(register, 0, 1), constant);
        }
        allCallsAreMade();
    }

    /** Up to the most parts of a term and back to what the history still has. */
    private void thereAndBack() {
        for (int i = 1; i < 200; i++) {
            boolean last = i == 193;
            due("bind " + i, x.bind(0, last ? 0 : 5, 0), last ? 1 : 0);
        }
        due("bind once more", x.bind(0, 5, 0), TOO_MANY);
        for (int i = 1; i <= 6; i++) {
            due("undo " + i, x.undo(), 6 - i);
        }
        due("undo once more", x.undo(), NOT_POSSIBLE);
        due("parts", x.of(0, 0), 194);
        due("the variable", x.part(0, 193, 1), 192);
        due("its L", x.part(0, 193, 4), 0);
        due("save", x.save(0), 199);
        for (int i = 0; i < 193; i++) {
            due("named L", x.named(0, 2 * i), 'L');
        }
        for (int i = 0; i < 105; i++) {
            due("named letter", x.named(0, 2 * i + 1), 'g' + i % 20);
        }
        due("named variable", x.named(0, 386), 'g');
        due("named behind", x.named(0, 387), NO_SUCH);
        due("restore", x.restore(0), 199);
        allCallsAreMade();
    }
}
