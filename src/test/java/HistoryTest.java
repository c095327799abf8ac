/** Promises 20 to 22: undo, save and restore. */
public final class HistoryTest {
    private static final Check CHECK = new Check("HistoryTest");
    private static final int BAD_VALUE = -2, BAD_TEXT = -3, NOT_POSSIBLE = -5;

    public static void main(String[] args) {
        undoEach();
        undoManyChanges();
        undoKeeps();
        whatIsNoChange();
        slots();
        restoreAndUndo();
        nothingElseTouchesThem();
        CHECK.finish();
    }

    private static void due(String call, long got, long want) {
        CHECK.due(call, got, want);
    }

    private static void holds(CountedTerms x, int register, String text) {
        CHECK.due("the term of " + register, Check.text(x, register), text);
    }

    private static void undoEach() {
        CountedTerms x = Check.with("@L0@L0b", "LL1");
        x.copy(1, 2);
        due("undo copy", x.undo(), 2);
        holds(x, 2, "a");
        x.apply(0, 1, 0);
        due("undo apply", x.undo(), 2);
        holds(x, 0, "@L0@L0b");
        x.bind(0, 1, 1);
        due("undo bind", x.undo(), 2);
        holds(x, 1, "LL1");
        x.step(0, 1);
        due("undo step", x.undo(), 2);
        holds(x, 0, "@L0@L0b");
        x.run(0, 1, 9);
        due("undo run", x.undo(), 2);
        holds(x, 0, "@L0@L0b");
        due("undo read", x.undo(), 1);
        holds(x, 1, "a");
        due("undo read", x.undo(), 0);
        holds(x, 0, "a");
        due("nothing to undo", x.undo(), NOT_POSSIBLE);
        holds(x, 0, "a");
    }

    private static void undoManyChanges() {
        for (int changes = 1; changes <= 20; changes++) {
            CountedTerms x = new CountedTerms();
            for (int i = 0; i < changes; i++) {
                x.bind(0, 1, 0);
            }
            int kept = Math.min(changes, 6);
            due("changes", x.count(3), kept);
            for (int i = 1; i <= kept; i++) {
                due("undo of " + changes, x.undo(), kept - i);
                due("parts", x.of(0, 0), 1 + changes - i);
            }
            due("undo one more", x.undo(), NOT_POSSIBLE);
            due("parts then", x.of(0, 0), 1 + changes - kept);
            due("a change then", x.bind(0, 0, 0), 1);
            due("undo it", x.undo(), 0);
        }
    }

    private static void undoKeeps() {
        CountedTerms x = new CountedTerms();
        Check.write(x, "LL1");
        x.read(3);
        x.save(1);
        Check.write(x, "L");
        due("undo", x.undo(), 0);
        due("the pad stays", x.count(2), 1);
        holds(x, 3, "a");
        due("the slot stays", x.restore(1), 8);
        holds(x, 3, "LL1");
        x.copy(3, 3);
        due("a change that made nothing different", x.count(3), 2);
        due("undo it", x.undo(), 1);
        holds(x, 3, "LL1");
        x.run(3, 0, 5);
        due("a run of no step", x.count(3), 2);
    }

    private static void whatIsNoChange() {
        CountedTerms x = Check.with("@L0b");
        x.of(0, 0);
        x.part(0, 0, 0);
        x.named(0, 0);
        x.same(0, 1);
        x.count(0);
        x.ends(0, 0, 5);
        x.agree(0, 5);
        x.most(0, 0, 5);
        x.alike(0, 1, 5);
        x.put('L');
        x.fault();
        due("what failed", x.read(0), BAD_TEXT);
        x.wipe();
        x.save(0);
        due("no change", x.count(3), 1);
    }

    private static void slots() {
        CountedTerms x = Check.with("LL1", "@bc");
        for (int slot : new int[] {-1, 2, Integer.MIN_VALUE, Integer.MAX_VALUE}) {
            due("save " + slot, x.save(slot), BAD_VALUE);
            due("restore " + slot, x.restore(slot), BAD_VALUE);
        }
        due("restore 0", x.restore(0), NOT_POSSIBLE);
        due("save 0", x.save(0), 10);
        due("restore 1", x.restore(1), NOT_POSSIBLE);
        due("changes", x.count(3), 2);
        x.copy(1, 0);
        x.bind(1, 1, 5);
        due("save 1", x.save(1), 13);
        due("restore 0", x.restore(0), 10);
        holds(x, 0, "LL1");
        holds(x, 5, "a");
        due("changes", x.count(3), 5);
        due("restore 1", x.restore(1), 13);
        holds(x, 0, "@bc");
        holds(x, 5, "L@0c");
        due("restore again", x.restore(1), 13);
        x.copy(2, 5);
        due("save over it", x.save(1), 10);
        due("restore 0 still", x.restore(0), 10);
        holds(x, 0, "LL1");
        due("restore what was saved over it", x.restore(1), 10);
        holds(x, 0, "@bc");
        holds(x, 5, "a");
    }

    private static void restoreAndUndo() {
        CountedTerms x = Check.with("LL1");
        x.save(0);
        x.copy(1, 0);
        Check.write(x, "LL");
        due("restore", x.restore(0), 8);
        due("the pad stays", x.count(2), 2);
        due("restore is a change", x.count(3), 3);
        due("undo restore", x.undo(), 2);
        holds(x, 0, "a");
        due("undo copy", x.undo(), 1);
        holds(x, 0, "LL1");
        due("undo read", x.undo(), 0);
        holds(x, 0, "a");
        due("restore still", x.restore(0), 8);
        holds(x, 0, "LL1");
        x.bind(0, 0, 0);
        due("the slot keeps what it had", x.restore(0), 8);
        holds(x, 0, "LL1");
    }

    private static void nothingElseTouchesThem() {
        String[] texts = {"@L@00@L0b", "@L0c", "LL1", "@bc", "d", "L@0e"};
        CountedTerms x = Check.with(texts);
        x.save(0);
        x.save(1);
        x.copy(0, 0);
        x.agree(0, 9);
        x.alike(0, 1, 9);
        x.most(0, 0, 9);
        x.ends(1, 2, 9);
        x.apply(2, 3, 4);
        x.bind(5, 4, 3);
        x.step(0, 0);
        x.run(0, 1, 9);
        for (int i = 0; i < 5; i++) {
            x.undo();
        }
        for (int slot = 0; slot <= 2; slot++) {
            for (int register = 0; register < 6; register++) {
                holds(x, register, texts[register]);
            }
            for (int register = 0; register < 6; register++) {
                x.copy(4, register);
            }
            x.restore(slot);
        }
    }
}
