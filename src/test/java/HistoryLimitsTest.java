/** Promises 20 to 22: each sentence there that names a limit. */
public final class HistoryLimitsTest {
    private static final Check CHECK = new Check("HistoryLimitsTest");
    private static final int BAD_VALUE = -2, BAD_TEXT = -3, NOT_POSSIBLE = -5;

    public static void main(String[] args) {
        atMostSix();
        theOldestIsDropped();
        theRingGoesOn();
        eachChangeRecords();
        nothingDifferentRecords();
        othersDoNotRecord();
        undoLeavesThePad();
        undoLeavesTheSlots();
        undoTheGreatest();
        undoAnswers();
        slotsOfSave();
        saveOverwrites();
        saveAnswers();
        restoreKeeps();
        restoreNothing();
        restoreIsAChange();
        restoreLeavesTheRest();
        CHECK.finish();
    }

    private static void due(String call, long got, long want) {
        CHECK.due(call, got, want);
    }

    private static void atMostSix() {
        CHECK.sentence("Promise 20", "A history of at most 6 states is kept");
        for (int changes = 0; changes <= 13; changes++) {
            CountedTerms x = new CountedTerms();
            Check.deepen(x, 0, changes);
            int kept = Math.min(changes, 6);
            due("kept of " + changes, x.count(3), kept);
            for (int i = 1; i <= kept; i++) {
                due("undo " + i + " of " + changes, x.undo(), kept - i);
                due("parts then", x.of(0, 0), 1 + changes - i);
            }
            due("undo one more of " + changes, x.undo(), NOT_POSSIBLE);
            due("parts then", x.of(0, 0), 1 + changes - kept);
        }
    }

    private static void theOldestIsDropped() {
        CHECK.sentence("Promise 20", "when one more is recorded, the oldest one is dropped");
        CountedTerms x = Check.with("Lb", "Lc", "Ld", "Le", "Lf", "@bc");
        due("6 changes", x.count(3), 6);
        x.copy(0, 1);
        due("the 7th one", x.count(3), 6);
        for (int i = 0; i < 6; i++) {
            x.undo();
        }
        CHECK.holds(x, 0, "Lb");
        CHECK.holds(x, 1, "a");
        due("the first change stays", x.undo(), NOT_POSSIBLE);
        CHECK.holds(x, 0, "Lb");
    }

    private static void theRingGoesOn() {
        CHECK.sentence("Promise 20", "Undoes the latest change");
        // So many changes, so many undone, changes again: at each place of the history.
        for (int first = 0; first <= 7; first++) {
            for (int back = 0; back <= Math.min(first, 6); back++) {
                CountedTerms x = new CountedTerms();
                Check.deepen(x, 0, first);
                for (int i = 0; i < back; i++) {
                    x.undo();
                }
                Check.deepen(x, 1, 3);
                due("changes", x.count(3), Math.min(Math.min(first, 6) - back + 3, 6));
                for (int left = 2; left >= 0; left--) {
                    x.undo();
                    due("parts of 1", x.of(1, 0), 1 + left);
                    due("parts of 0", x.of(0, 0), 1 + first - back);
                }
                int left = Math.min(Math.min(first, 6) - back, 3);
                due("left of those ahead", x.count(3), left);
                for (int i = 1; i <= left; i++) {
                    x.undo();
                    due("parts of 0 behind undo", x.of(0, 0), 1 + first - back - i);
                }
                due("no more", x.undo(), NOT_POSSIBLE);
            }
        }
    }

    private static void eachChangeRecords() {
        CHECK.sentence("Promise 20", "each method that is a change, and returns no error, records the state before it");
        for (int method = 0; method < 7; method++) {
            CountedTerms x = new CountedTerms();
            x.save(1);
            Check.write(x, "@L@00b");
            x.read(0);
            x.put('c');
            int got = change(x, method);
            due("change " + method + " is no error", got < 0 ? got : 0, 0);
            due("change " + method + " is recorded", x.count(3), 2);
            due("undo it", x.undo(), 1);
            CHECK.holds(x, 0, "@L@00b");
            CHECK.holds(x, 1, "a");
            due("all parts", x.count(0), 11);
        }
    }

    private static int change(CountedTerms x, int method) {
        switch (method) {
            case 0: return x.read(1);
            case 1: return x.copy(0, 1);
            case 2: return x.apply(0, 1, 1);
            case 3: return x.bind(0, 1, 0);
            case 4: return x.step(0, 0);
            case 5: return x.run(0, 1, 9);
            default: return x.restore(1);
        }
    }

    private static void nothingDifferentRecords() {
        CHECK.sentence("Promise 20", "(also if nothing is different then)");
        CountedTerms x = new CountedTerms();
        due("a copy to itself", x.copy(0, 0), 1);
        due("a copy of the same", x.copy(0, 1), 1);
        due("a run of no step", x.run(0, 0, 200), 0);
        x.put('a');
        due("what was there is read", x.read(0), 1);
        x.save(0);
        due("what is there is restored", x.restore(0), 6);
        due("5 changes", x.count(3), 5);
        x = Check.with("@L@00L@00");
        due("a step to the same", x.step(0, 0), 9);
        due("2 changes", x.count(3), 2);
        due("undo it", x.undo(), 1);
        CHECK.holds(x, 0, "@L@00L@00");
    }

    private static void othersDoNotRecord() {
        CHECK.sentence("Promise 20", "each method that is a change");
        CountedTerms x = Check.with("@L0b");
        x.put('L');
        x.fault();
        x.wipe();
        x.save(0);
        x.of(0, 0);
        x.part(0, 0, 0);
        x.named(0, 0);
        x.same(0, 1);
        x.count(0);
        x.ends(0, 0, 9);
        x.agree(0, 9);
        x.most(0, 0, 9);
        x.alike(0, 1, 9);
        due("one change", x.count(3), 1);
        due("undo it", x.undo(), 0);
        due("undo is none", x.count(3), 0);
        due("undo more", x.undo(), NOT_POSSIBLE);
        CHECK.holds(x, 0, "a");
    }

    private static void undoLeavesThePad() {
        CHECK.sentence("Promise 20", "everything except the pad, the slots and the history is as it was before it");
        CountedTerms x = new CountedTerms();
        x.copy(0, 1);
        Check.write(x, "@L0");
        x.undo();
        due("the pad of another time", x.count(2), 3);
        x.put('f');
        due("its text", x.read(2), 4);
        CHECK.holds(x, 2, "@L0f");
        x.undo();
        due("what was read is not put back", x.count(2), 0);
        due("nothing to read", x.read(2), BAD_TEXT);
        CHECK.holds(x, 2, "a");
    }

    private static void undoLeavesTheSlots() {
        CHECK.sentence("Promise 20", "the slots");
        CountedTerms x = Check.with("Lb");
        x.save(0);
        due("undo", x.undo(), 0);
        due("what was saved is there", x.restore(0), 7);
        CHECK.holds(x, 0, "Lb");
        x.copy(0, 5);
        x.save(0);
        x.undo();
        due("what was saved last is there", x.restore(0), 8);
        CHECK.holds(x, 5, "Lb");
        due("the other slot", x.restore(1), NOT_POSSIBLE);
    }

    private static void undoTheGreatest() {
        CHECK.sentence("Promise 20", "as it was before it");
        CountedTerms x = Check.withLongTerms();
        for (int register = 0; register <= 4; register++) {
            x.copy(5, register);
        }
        x.put('b');
        due("read 1 part", x.read(3), 1);
        due("1001 parts", x.count(0), 1001);
        due("undo", x.undo(), 5);
        due("1200 parts again", x.count(0), 1200);
        due("they are the same", x.same(3, 4), 1);
        x.undo();
        due("199 parts in register 4", x.count(0), 1199);
        x.undo();
        due("99 parts in register 3", x.count(0), 1098);
    }

    private static void undoAnswers() {
        CHECK.sentence("Promise 20", "Returns how many changes can be undone then; NOT_POSSIBLE if there is none.");
        CountedTerms x = new CountedTerms();
        due("none", x.undo(), NOT_POSSIBLE);
        due("none at all", x.undo(), NOT_POSSIBLE);
        x.copy(0, 1);
        due("the only one", x.undo(), 0);
        due("none again", x.undo(), NOT_POSSIBLE);
        for (int i = 0; i < 6; i++) {
            x.copy(0, 1);
        }
        for (int left = 5; left >= 0; left--) {
            due("one of 6", x.undo(), left);
        }
        due("the 7th", x.undo(), NOT_POSSIBLE);
    }

    private static void slotsOfSave() {
        CHECK.sentence("Promise 21", "- `slot`: 0 or 1");
        CountedTerms x = Check.with("Lb");
        for (int slot : new int[] {-1, 2, 256, Integer.MIN_VALUE, Integer.MAX_VALUE}) {
            due("save " + slot, x.save(slot), BAD_VALUE);
            due("restore " + slot, x.restore(slot), BAD_VALUE);
        }
        due("nothing in slot 0", x.restore(0), NOT_POSSIBLE);
        due("nothing in slot 1", x.restore(1), NOT_POSSIBLE);
        due("save 1", x.save(1), 7);
        due("nothing in slot 0 still", x.restore(0), NOT_POSSIBLE);
        x.copy(0, 1);
        due("save 0", x.save(0), 8);
        for (int slot : new int[] {-1, 2, 256, Integer.MIN_VALUE, Integer.MAX_VALUE}) {
            due("restore " + slot, x.restore(slot), BAD_VALUE);
        }
        due("restore 1", x.restore(1), 7);
        CHECK.holds(x, 1, "a");
        due("restore 0", x.restore(0), 8);
        CHECK.holds(x, 1, "Lb");
    }

    private static void saveOverwrites() {
        CHECK.sentence("Promise 21", "and overwrites what was saved there");
        CountedTerms x = new CountedTerms();
        for (int slot = 0; slot <= 1; slot++) {
            x.save(slot);
            x.bind(slot, 0, slot);
            due("save over it", x.save(slot), 7 + slot);
            x.copy(5, slot);
            due("restore " + slot, x.restore(slot), 7 + slot);
            CHECK.holds(x, slot, "L0");
        }
        due("the other one stays", x.restore(0), 7);
        CHECK.holds(x, 1, "a");
    }

    private static void saveAnswers() {
        CHECK.sentence("Promise 21", "Returns the parts of all terms, how many");
        CountedTerms x = new CountedTerms();
        due("the fewest", x.save(0), 6);
        x = Check.withLongTerms();
        due("49, 1, 100, 99, 199 and 200", x.save(0), 648);
        for (int register = 0; register <= 4; register++) {
            x.copy(5, register);
        }
        due("the most", x.save(1), 1200);
        due("restore the most", x.restore(1), 1200);
        due("restore fewer", x.restore(0), 648);
        due("restore the most again", x.restore(1), 1200);
        due("each of them is the same", x.same(0, 5) + x.same(1, 4) + x.same(2, 3), 3);
    }

    private static void restoreKeeps() {
        CHECK.sentence("Promise 22", "Restores what was saved last in a slot, which keeps it.");
        CountedTerms x = Check.with("Lb");
        x.save(0);
        for (int i = 0; i < 3; i++) {
            x.bind(0, 1, 0);
            x.bind(5, 0, 5);
            due("restore time " + i, x.restore(0), 7);
            CHECK.holds(x, 0, "Lb");
            CHECK.holds(x, 5, "a");
        }
    }

    private static void restoreNothing() {
        CHECK.sentence("Promise 22", "NOT_POSSIBLE if nothing was saved in it.");
        for (int slot = 0; slot <= 1; slot++) {
            CountedTerms x = Check.with("Lb");
            x.save(1 - slot);
            due("restore " + slot, x.restore(slot), NOT_POSSIBLE);
            due("no change", x.count(3), 1);
            CHECK.holds(x, 0, "Lb");
            x.save(slot);
            due("restore it then", x.restore(slot), 7);
        }
    }

    private static void restoreIsAChange() {
        CHECK.sentence("Promise 22", "This is a change.");
        CountedTerms x = new CountedTerms();
        x.save(0);
        x.bind(0, 0, 0);
        for (int i = 0; i < 8; i++) {
            x.restore(0);
            due("so many changes", x.count(3), Math.min(i + 2, 6));
        }
        x.undo();
        due("undo a restore of the same", x.of(0, 0), 1);
        x = new CountedTerms();
        x.save(0);
        x.bind(0, 0, 0);
        x.restore(0);
        due("undo a restore", x.undo(), 1);
        CHECK.holds(x, 0, "L0");
    }

    private static void restoreLeavesTheRest() {
        CHECK.sentence("Promise 21", "Saves everything except the pad, the history and the slots in a slot");
        CountedTerms x = Check.with("Lb");
        Check.write(x, "@L");
        x.save(0);
        x.save(1);
        x.wipe();
        Check.write(x, "L");
        x.copy(0, 1);
        x.save(1);
        due("restore", x.restore(0), 7);
        due("the pad is as it is", x.count(2), 1);
        due("the history too", x.count(3), 3);
        due("the other slot too", x.restore(1), 8);
        x.put('0');
        due("the pad's text", x.read(5), 2);
        CHECK.holds(x, 5, "L0");
    }
}
