/** Promises 8 to 12: each sentence there that names a limit. */
public final class QuestionLimitsTest {
    private static final Check CHECK = new Check("QuestionLimitsTest");
    private static final int NO_SUCH = -1, BAD_VALUE = -2, NONE = -6;

    public static void main(String[] args) {
        whatOfATerm();
        theSmallestTerm();
        theGreatestTerms();
        manyReduciblePlaces();
        whereALongerTermWas();
        noneOfATerm();
        placesOfParts();
        whatOfAPart();
        numbersOfParts();
        behindParts();
        bindersOfParts();
        charactersOfNames();
        namesBeginAnew();
        variablesBeginAnew();
        manyNames();
        sameTerms();
        whatIsCounted();
        allParts();
        setAtRest();
        lengthOfThePad();
        changesToUndo();
        CHECK.finish();
    }

    private static void due(String call, long got, long want) {
        CHECK.due(call, got, want);
    }

    /** What of() answers for 0, 1, and so on. */
    private static void ofIs(CountedTerms x, int register, int... answers) {
        for (int what = 0; what < answers.length; what++) {
            due("of(" + register + ", " + what + ")", x.of(register, what), answers[what]);
        }
    }

    private static void whatOfATerm() {
        CHECK.sentence("Promise 8", "BAD_VALUE if what is out of range.");
        CountedTerms x = Check.with("L@@@L0a0@L0b");
        ofIs(x, 0, 12, 3, 4, 3, 2, 2, 2, 3, 3, NONE, 0);
        for (int what : new int[] {-1, 11, 256, Integer.MIN_VALUE, Integer.MAX_VALUE}) {
            due("of(0, " + what + ")", x.of(0, what), BAD_VALUE);
        }
    }

    private static void theSmallestTerm() {
        CHECK.sentence("Promise 8", "0 its parts, how many, 1 its L, 2 its applications, 3 its variables, 4 its constants, how many");
        CountedTerms x = Check.with("f", "L0", "@ff");
        ofIs(x, 0, 1, 0, 0, 0, 1, 0, 0, NONE, NONE, NONE, NONE);
        ofIs(x, 1, 2, 1, 0, 1, 0, 1, 0, NONE, NONE, NONE, 0);
        ofIs(x, 2, 3, 0, 1, 0, 2, 0, 0, NONE, NONE, NONE, NONE);
    }

    private static void theGreatestTerms() {
        CHECK.sentence("Promise 8", "5 the most L around a part");
        CountedTerms x = Check.withLongTerms();
        ofIs(x, 4, 199, 0, 99, 0, 100, 0, 0, NONE, NONE, NONE, NONE);
        ofIs(x, 5, 200, 1, 99, 0, 100, 1, 0, NONE, NONE, NONE, NONE);
        x.bind(4, 0, 5);
        ofIs(x, 5, 200, 1, 99, 100, 0, 1, 0, NONE, NONE, NONE, 0);
        Check.deepen(x, 1, 199);
        ofIs(x, 1, 200, 199, 0, 0, 1, 199, 0, NONE, NONE, NONE, NONE);
        x = Check.with("@LLaLb", "@LaLLb", "L@aL@La0");
        due("the most in the first term", x.of(0, 5), 2);
        due("the most in the argument", x.of(1, 5), 2);
        due("the most in the midst", x.of(2, 5), 3);
    }

    private static void manyReduciblePlaces() {
        CHECK.sentence("Promise 8", "6 its reducible places, how many, 7 to 9 the place that comes next by the orders OUTER, INNER, WEAK (NONE)");
        CountedTerms x = Check.with("L0", "a");
        for (int places = 1; places <= 66; places++) {
            x.apply(0, 1, 1);
        }
        ofIs(x, 1, 199, 66, 66, 66, 1, 1, 66, 0, 195, 0, 0);
        x.bind(1, 0, 1);
        ofIs(x, 1, 200, 67, 66, 67, 0, 2, 66, 1, 196, NONE, 0);
    }

    /** What was behind the end of a term, and what was asked ahead of it, tells nothing about it. */
    private static void whereALongerTermWas() {
        CHECK.sentence("Promise 8", "Returns something about a term.");
        String[] longer = {"@@L0bc", "@b@L0c", "L@b@L0c", "@@bc@L0d", "L@@bc@L0d", "LLLLLLLL@L8L0", "L@@L00@L@10L0"};
        String[] shorter = {"b", "L0", "Lb", "@bc", "LL1", "@bLc", "@L0b", "L@0b", "@b@cd", "@L0L0"};
        for (String ahead : longer) {
            for (String text : shorter) {
                CountedTerms x = Check.with(ahead, text, ahead);
                x.copy(1, 0);
                CountedTerms fresh = Check.with(text);
                for (int what = 0; what <= 10; what++) {
                    x.of(2, what);
                    due("of " + text + " where " + ahead + " was, " + what, x.of(0, what), fresh.of(0, what));
                }
                for (int place = 0; place <= text.length(); place++) {
                    for (int what = 0; what <= 4; what++) {
                        x.part(2, 0, what);
                        due("part " + place + " of " + text, x.part(0, place, what), fresh.part(0, place, what));
                    }
                }
                CHECK.due(text + " with names", Check.names(x, 0), Check.names(fresh, 0));
                due("the parts that both have", x.same(0, 1), 1);
            }
        }
    }

    private static void noneOfATerm() {
        CHECK.sentence("Promise 8", "10 the greatest variable (NONE)");
        CountedTerms x = Check.with("@ab", "L0", "LLa", "LLLLLLLLLL@90", "LL@01", "LL@10");
        int[] greatest = {NONE, 0, NONE, 9, 1, 1};
        for (int register = 0; register <= 5; register++) {
            due("the greatest variable of " + register, x.of(register, 10), greatest[register]);
        }
    }

    private static void placesOfParts() {
        CHECK.sentence("Promise 9", "NO_SUCH if there is no such register or part");
        CountedTerms x = Check.withLongTerms();
        due("the only part", x.part(1, 0, 0), 1);
        due("behind the only part", x.part(1, 1, 0), NO_SUCH);
        due("the first of 200 parts", x.part(5, 0, 0), 2);
        due("the last of 200 parts", x.part(5, 199, 0), 1);
        due("behind 200 parts", x.part(5, 200, 0), NO_SUCH);
        due("the last of 199 parts", x.part(4, 198, 0), 1);
        due("behind 199 parts", x.part(4, 199, 0), NO_SUCH);
        x.copy(1, 5);
        due("where a longer term was", x.part(5, 1, 0), NO_SUCH);
        for (int place : new int[] {-1, 201, Integer.MIN_VALUE, Integer.MAX_VALUE}) {
            due("part " + place, x.part(4, place, 0), NO_SUCH);
        }
    }

    private static void whatOfAPart() {
        CHECK.sentence("Promise 9", "BAD_VALUE if what is out of range.");
        CountedTerms x = Check.with("LL1");
        int[] answers = {0, 1, 2, 3, 0};
        for (int what = 0; what <= 4; what++) {
            due("part(0, 2, " + what + ")", x.part(0, 2, what), answers[what]);
        }
        for (int what : new int[] {-1, 5, 256, Integer.MIN_VALUE, Integer.MAX_VALUE}) {
            due("part(0, 2, " + what + ")", x.part(0, 2, what), BAD_VALUE);
        }
    }

    private static void numbersOfParts() {
        CHECK.sentence("Promise 9", "1 the variable or the constant as a number (0 for others)");
        CountedTerms x = Check.with("LLLLLLLLLL@@@90af");
        due("an L", x.part(0, 9, 1), 0);
        due("an application", x.part(0, 10, 1), 0);
        due("variable 9", x.part(0, 13, 1), 9);
        due("variable 0", x.part(0, 14, 1), 0);
        due("constant a", x.part(0, 15, 1), 0);
        due("constant f", x.part(0, 16, 1), 5);
        due("the kind of variable 0", x.part(0, 14, 0), 0);
        due("the kind of constant a", x.part(0, 15, 0), 1);
        due("the kind of an L", x.part(0, 9, 0), 2);
        due("the kind of an application", x.part(0, 10, 0), 3);
        due("no L around the first one", x.part(0, 0, 2), 0);
        due("the others around the last one", x.part(0, 9, 2), 9);
        due("all around the last part", x.part(0, 16, 2), 10);
        x.apply(0, 0, 1);
        due("an application that was made", x.part(1, 0, 1), 0);
        x.bind(1, 5, 1);
        due("an L that was made", x.part(1, 0, 1), 0);
        due("a variable that was made", x.part(1, 18, 1), 10);
    }

    private static void behindParts() {
        CHECK.sentence("Promise 9", "3 the place behind the term that begins with it");
        CountedTerms x = Check.with("@L@0bLLc", "d");
        int[] behind = {8, 5, 5, 4, 5, 8, 8, 8};
        for (int place = 0; place < behind.length; place++) {
            due("behind " + place, x.part(0, place, 3), behind[place]);
        }
        due("behind the only part", x.part(1, 0, 3), 1);
        x = Check.withLongTerms();
        due("behind 200 parts", x.part(5, 0, 3), 200);
        due("behind the last of 200 parts", x.part(5, 199, 3), 200);
    }

    private static void bindersOfParts() {
        CHECK.sentence("Promise 9", "4 the place of the L that binds it (NONE if it is no variable)");
        CountedTerms x = Check.with("L@@L0@0aLL2");
        int[] binders = {NONE, NONE, NONE, NONE, 3, NONE, 0, NONE, NONE, NONE, 0};
        for (int place = 0; place < binders.length; place++) {
            due("what binds " + place, x.part(0, place, 4), binders[place]);
        }
    }

    private static void charactersOfNames() {
        CHECK.sentence("Promise 10", "NO_SUCH if there is no such register or character.");
        CountedTerms x = Check.with("f", "L0", "@L@0fb");
        String[] names = {"f", "Lgg", "@Lg@gfb"};
        for (int register = 0; register < names.length; register++) {
            for (int place = 0; place < names[register].length(); place++) {
                due("character " + place + " of " + names[register], x.named(register, place), names[register].charAt(place));
            }
            due("behind " + names[register], x.named(register, names[register].length()), NO_SUCH);
            due("ahead of " + names[register], x.named(register, -1), NO_SUCH);
            due("far behind", x.named(register, Integer.MAX_VALUE), NO_SUCH);
            due("far ahead", x.named(register, Integer.MIN_VALUE), NO_SUCH);
        }
    }

    private static void namesBeginAnew() {
        CHECK.sentence("Terms", "an L with d others around it has the letter with the number d left over by 20, from g (0) to z (19)");
        CountedTerms x = new CountedTerms();
        Check.deepen(x, 0, 199);
        int[] others = {0, 1, 18, 19, 20, 21, 38, 39, 40, 59, 60, 179, 180, 198};
        String letters = "ghyzghyzgzgzgy";
        for (int i = 0; i < others.length; i++) {
            due("an L with " + others[i] + " others", x.named(0, 2 * others[i]), 'L');
            due("its letter", x.named(0, 2 * others[i] + 1), letters.charAt(i));
        }
        due("the last character", x.named(0, 398), 'a');
        due("behind it", x.named(0, 399), NO_SUCH);
        // L that stand beside one another have the same number of others around them.
        CHECK.due("beside one another", Check.names(Check.with("@LL@01@L0L0"), 0), "@LgLh@hg@LggLgg");
    }

    private static void variablesBeginAnew() {
        CHECK.sentence("Terms", "a variable as the letter of its L, a constant as its letter, an application as \"@\"");
        int[] variables = {0, 1, 2, 9};
        String[] letters = {"yxwp", "zyxq", "gzyr", "hgzs"};
        for (int around = 19; around <= 22; around++) {
            for (int i = 0; i < variables.length; i++) {
                CountedTerms x = Check.with("L".repeat(around) + variables[i]);
                due("variable " + variables[i] + " in " + around + " L", x.named(0, 2 * around), letters[around - 19].charAt(i));
            }
        }
        CountedTerms x = Check.with("L".repeat(40) + "@0@af");
        due("variable 0 in 40 L", x.named(0, 81), 'z');
        due("the application in it", x.named(0, 82), '@');
        due("constant a in 40 L", x.named(0, 83), 'a');
        due("constant f in 40 L", x.named(0, 84), 'f');
        x = Check.with("L".repeat(40) + "b");
        x.bind(0, 1, 0);
        due("a variable of the first of 41 L", x.named(0, 82), 'g');
    }

    private static void manyNames() {
        CHECK.sentence("Promise 10", "Returns a character of a term with names.");
        CountedTerms x = Check.withLongTerms();
        due("the first of 201 characters", x.named(5, 0), 'L');
        due("the letter of the L", x.named(5, 1), 'g');
        due("what is behind it", x.named(5, 2), '@');
        due("the last of 201 characters", x.named(5, 200), 'a');
        due("behind 201 characters", x.named(5, 201), NO_SUCH);
        due("the last of 199 characters", x.named(4, 198), 'a');
        due("behind 199 characters", x.named(4, 199), NO_SUCH);
    }

    private static void sameTerms() {
        CHECK.sentence("Promise 11", "Tells whether two terms are the same, part by part.");
        CountedTerms x = Check.withLongTerms();
        due("199 and 200 parts", x.same(4, 5), 0);
        due("200 and 199 parts", x.same(5, 4), 0);
        due("200 parts and themselves", x.same(5, 5), 1);
        due("1 part and 200", x.same(1, 5), 0);
        Check.write(x, "@".repeat(24) + "a".repeat(24) + "b");
        x.read(1);
        x.apply(0, 1, 1);
        due("99 parts of which the last is another one", x.same(1, 3), 0);
        x.apply(3, 1, 1);
        due("199 parts of which the last is another one", x.same(1, 4), 0);
        x.apply(3, 3, 1);
        due("199 parts", x.same(1, 4), 1);
        x = Check.with("b", "c", "L0", "La", "@ab", "@cb");
        due("constants", x.same(0, 1), 0);
        due("variable 0 and constant 0", x.same(2, 3), 0);
        due("another part in the midst", x.same(4, 5), 0);
        x = Check.with("LL0", "LL1", "@bc", "@cb", "L@b0", "LLb");
        due("other variables", x.same(0, 1), 0);
        due("other places", x.same(2, 3), 0);
        due("an L and an application", x.same(4, 5), 0);
    }

    private static void whatIsCounted() {
        CHECK.sentence("Promise 12", "BAD_VALUE if what is out of range.");
        CountedTerms x = Check.with("@L0b");
        x.put('L');
        int[] answers = {9, 62, 1, 1};
        for (int what = 0; what <= 3; what++) {
            due("count(" + what + ")", x.count(what), answers[what]);
        }
        for (int what : new int[] {-1, 4, 256, Integer.MIN_VALUE, Integer.MAX_VALUE}) {
            due("count(" + what + ")", x.count(what), BAD_VALUE);
        }
    }

    private static void allParts() {
        CHECK.sentence("Promise 12", "0 the parts of all terms, how many");
        CountedTerms x = new CountedTerms();
        due("the fewest", x.count(0), 6);
        x = Check.withLongTerms();
        for (int register = 0; register <= 4; register++) {
            x.copy(5, register);
        }
        due("the most", x.count(0), 1200);
        due("saved", x.save(1), 1200);
        x.undo();
        due("one less", x.count(0), 1199);
        due("restored", x.restore(1), 1200);
    }

    private static void setAtRest() {
        CHECK.sentence("Promise 12", "1 registers whose terms are at rest by OUTER, as a set (a bit mask)");
        CountedTerms x = new CountedTerms();
        due("all of them", x.count(1), 63);
        for (int register = 0; register <= 5; register++) {
            x = new CountedTerms();
            Check.write(x, "@L0b");
            x.read(register);
            due("all but " + register, x.count(1), 63 - (1 << register));
        }
        for (int other = 0; other <= 5; other++) {
            x.copy(5, other);
        }
        due("none of them", x.count(1), 0);
        for (int register = 0; register <= 5; register++) {
            x.step(register, 2);
            due("up to " + register, x.count(1), (2 << register) - 1);
        }
    }

    private static void lengthOfThePad() {
        CHECK.sentence("Promise 12", "2 the length of the pad");
        CountedTerms x = new CountedTerms();
        for (int length = 0; length <= 60; length++) {
            due("so many characters", x.count(2), length);
            x.put('!');
        }
        due("one more was too many", x.count(2), 60);
        x.wipe();
        due("none again", x.count(2), 0);
    }

    private static void changesToUndo() {
        CHECK.sentence("Promise 12", "3 how many changes can be undone");
        CountedTerms x = new CountedTerms();
        for (int changes = 0; changes <= 14; changes++) {
            due("so many changes", x.count(3), Math.min(changes, 6));
            x.copy(0, 0);
        }
        for (int left = 5; left >= 0; left--) {
            x.undo();
            due("so many left", x.count(3), left);
        }
        x.undo();
        due("none left", x.count(3), 0);
    }
}
