/** Promises 13 to 16: each sentence there that names a limit. */
public final class TrialLimitsTest {
    private static final Check CHECK = new Check("TrialLimitsTest");
    private static final int BAD_VALUE = -2, TOO_MANY = -4, NOT_POSSIBLE = -5, NONE = -6;
    private static final int[] NO_FUELS = {0, -1, 201, 256, 257, Integer.MIN_VALUE, Integer.MAX_VALUE};
    private static final String GROWS = "@L@@000L@@000";

    public static void main(String[] args) {
        fuelOfEnds();
        fuelOfAgree();
        fuelOfMost();
        fuelOfAlike();
        endsAtRest();
        endsStuck();
        endsWithTheMostFuel();
        bothWithTheMostFuel();
        agreeTells();
        agreeNone();
        mostAheadOfTheFirst();
        mostBehindTheLast();
        mostOfStuck();
        alikeTells();
        alikeFuel();
        alikeNone();
        nothingChanges();
        CHECK.finish();
    }

    private static void due(String call, long got, long want) {
        CHECK.due(call, got, want);
    }

    private static void fuelOfEnds() {
        CHECK.sentence("Promise 13", "- `fuel`: 1 to 200");
        CountedTerms x = Check.with("@L0b");
        for (int order = 0; order <= 2; order++) {
            due("ends with fuel 1", x.ends(0, order, 1), 1);
            due("ends with fuel 200", x.ends(0, order, 200), 1);
            for (int fuel : NO_FUELS) {
                due("ends with fuel " + fuel, x.ends(0, order, fuel), BAD_VALUE);
            }
        }
        for (int order : new int[] {-1, 3, 256, Integer.MIN_VALUE, Integer.MAX_VALUE}) {
            due("ends by " + order, x.ends(0, order, 1), BAD_VALUE);
        }
    }

    private static void fuelOfAgree() {
        CHECK.sentence("Promise 14", "- `fuel`: 1 to 200, for each of both");
        CountedTerms x = Check.with("@L0b");
        due("agree with fuel 1", x.agree(0, 1), 1);
        due("agree with fuel 200", x.agree(0, 200), 1);
        for (int fuel : NO_FUELS) {
            due("agree with fuel " + fuel, x.agree(0, fuel), BAD_VALUE);
        }
        // OUTER needs 3 steps and INNER 2, or the other way: what one of them uses is not lost for the other one.
        x = Check.with("@L@00@L0b", "@La@L0@L0b", "@L0@L0b");
        int[] outer = {3, 1, 2};
        int[] inner = {2, 3, 2};
        for (int register = 0; register <= 2; register++) {
            due("the steps by OUTER", x.ends(register, 0, 200), outer[register]);
            due("the steps by INNER", x.ends(register, 1, 200), inner[register]);
            for (int fuel = 1; fuel <= 4; fuel++) {
                int enough = fuel >= Math.max(outer[register], inner[register]) ? 1 : NONE;
                due("agree " + register + " with fuel " + fuel, x.agree(register, fuel), enough);
            }
        }
    }

    private static void fuelOfMost() {
        CHECK.sentence("Promise 15", "- `fuel`: 1 to 200");
        CountedTerms x = Check.with("@L@@000@bc", GROWS);
        for (int order = 0; order <= 2; order++) {
            due("most with fuel 1", x.most(0, order, 1), 11);
            due("most with fuel 200", x.most(0, order, 200), 11);
            for (int fuel : NO_FUELS) {
                due("most with fuel " + fuel, x.most(0, order, fuel), BAD_VALUE);
            }
            // The argument of 6 parts and an application come with each step.
            for (int fuel = 1; fuel <= 20; fuel++) {
                due("most with fuel " + fuel, x.most(1, order, fuel), 13 + 7 * fuel);
            }
        }
        for (int order : new int[] {-1, 3, 256, Integer.MIN_VALUE, Integer.MAX_VALUE}) {
            due("most by " + order, x.most(0, order, 1), BAD_VALUE);
        }
    }

    private static void fuelOfAlike() {
        CHECK.sentence("Promise 16", "- `fuel`: 1 to 200, for each of both");
        CountedTerms x = Check.with("@L0b", "b");
        due("alike with fuel 1", x.alike(0, 1, 1), 1);
        due("alike with fuel 200", x.alike(0, 1, 200), 1);
        for (int fuel : NO_FUELS) {
            due("alike with fuel " + fuel, x.alike(0, 1, fuel), BAD_VALUE);
        }
    }

    private static void endsAtRest() {
        CHECK.sentence("Promise 13", "Returns how many (0 if it is)");
        CountedTerms x = Check.with("LL1", "L@L0b", "@L0@L0@L0b");
        for (int order = 0; order <= 2; order++) {
            due("at rest by " + order, x.ends(0, order, 1), 0);
            due("3 steps with fuel 2", x.ends(2, order, 2), NONE);
            due("3 steps with fuel 3", x.ends(2, order, 3), 3);
            due("3 steps with fuel 4", x.ends(2, order, 4), 3);
        }
        due("at rest by WEAK", x.ends(1, 2, 1), 0);
        due("not by OUTER", x.ends(1, 0, 1), 1);
        x = Check.withLongTerms();
        due("200 parts at rest", x.ends(5, 0, 1), 0);
    }

    private static void endsStuck() {
        CHECK.sentence("Promise 13", "NONE if it is stuck ahead of that, or would not be at rest with this fuel.");
        CountedTerms x = Check.withLongTerms();
        Check.write(x, "L@00");
        x.read(0);
        x.apply(0, 3, 1);
        due("the last step to 199", x.ends(1, 0, 1), 1);
        x.apply(0, 2, 1);
        due("the first step to 201", x.ends(1, 0, 200), NONE);
        Check.write(x, "L0");
        x.read(5);
        x.apply(5, 1, 1);
        due("the second step to 201", x.ends(1, 0, 200), NONE);
        due("by INNER the first one", x.ends(1, 1, 200), NONE);
        due("the first step is done", x.run(1, 0, 200), 1);
        x = Check.with("@L@00L@00", GROWS, "@LbL@00");
        due("no end", x.ends(0, 0, 200), NONE);
        due("stuck some time", x.ends(1, 0, 200), NONE);
        due("an end", x.ends(2, 0, 200), 1);
    }

    /** Register 0 has a function that changes nothing, 2 to the 5th times: 192 steps, and one more for each ahead. */
    private static CountedTerms withManySteps(int ahead) {
        CountedTerms x = Check.with("@@@LL@1@1@1@1@10LL@1@10L@L0@L0@L00a", "L0");
        for (int i = 0; i < ahead; i++) {
            x.apply(1, 0, 0);
        }
        return x;
    }

    private static void endsWithTheMostFuel() {
        CHECK.sentence("Promise 13", "Tells in how many steps a term would be at rest.");
        CountedTerms x = withManySteps(8);
        due("200 steps with fuel 199", x.ends(0, 0, 199), NONE);
        due("200 steps with fuel 200", x.ends(0, 0, 200), 200);
        int steps = 0;
        while (steps < 400 && x.step(0, 0) > 0) {
            steps++;
        }
        due("one by one", steps, 200);
        due("one more", x.step(0, 0), NOT_POSSIBLE);
        CHECK.holds(x, 0, "a");
        x = withManySteps(9);
        due("201 steps with fuel 200", x.ends(0, 0, 200), NONE);
        due("a run of 201 steps", x.run(0, 0, 200), 200);
        due("one is left", x.ends(0, 0, 1), 1);
        due("the last one", x.run(0, 0, 200), 1);
        CHECK.holds(x, 0, "a");
    }

    private static void bothWithTheMostFuel() {
        CHECK.sentence("Promise 14", "for each of both");
        CountedTerms x = withManySteps(9);
        due("201 steps by OUTER", x.agree(0, 200), NONE);
        due("fewer by INNER", x.ends(0, 1, 60), 60);
        x.step(0, 0);
        due("200 steps by OUTER", x.agree(0, 200), 1);
        due("200 steps with fuel 199", x.agree(0, 199), NONE);
        CHECK.sentence("Promise 16", "NONE if one of both would not come to rest");
        due("alike, 200 steps and none", x.alike(0, 3, 200), 1);
        due("alike, 200 steps each", x.alike(0, 0, 200), 1);
        due("alike with fuel 199", x.alike(0, 3, 199), NONE);
        x.undo();
        due("alike with 201 steps", x.alike(0, 3, 200), NONE);
        due("alike the other way", x.alike(3, 0, 200), NONE);
    }

    private static void agreeTells() {
        CHECK.sentence("Promise 14", "Tells whether OUTER and INNER lead to the same term.");
        CountedTerms x = Check.with("b", "L@L0b", "@L@00@L0b", "@LLL@20@L0b", "@@LL1@L0b@L0c");
        for (int register = 0; register <= 4; register++) {
            due("agree " + register, x.agree(register, 200), 1);
        }
    }

    private static void agreeNone() {
        CHECK.sentence("Promise 14", "NONE if one of both would not come to rest (as ends() tells it).");
        CountedTerms x = Check.with("@Lb@L@00L@00", "@L@00L@00", GROWS, "@Lb" + GROWS);
        due("OUTER ends at once", x.ends(0, 0, 200), 1);
        due("INNER does not end", x.agree(0, 200), NONE);
        due("neither of them ends", x.agree(1, 200), NONE);
        due("both are stuck", x.agree(2, 200), NONE);
        due("OUTER ends, though INNER is stuck", x.ends(3, 0, 200), 1);
        due("INNER is stuck", x.agree(3, 200), NONE);
        // OUTER makes two of an argument that INNER makes short ahead of that: 205 parts are too many.
        x = Check.withLongTerms();
        Check.write(x, "Lb");
        x.read(0);
        x.apply(0, 2, 0);
        Check.write(x, "L@00");
        x.read(1);
        x.apply(1, 0, 0);
        due("OUTER is stuck", x.ends(0, 0, 200), NONE);
        due("INNER ends", x.ends(0, 1, 200), 2);
        due("one of both is stuck", x.agree(0, 200), NONE);
    }

    private static void mostAheadOfTheFirst() {
        CHECK.sentence("Promise 15", "(also ahead of the first one, and behind the last one that is done)");
        CountedTerms x = Check.with("@Lb@cc", "b", "L@Lb@cc", "@Lb@L@@@0000@cc");
        due("ahead of the first one", x.most(0, 0, 200), 6);
        due("of no step", x.most(1, 0, 200), 1);
        due("of no step by WEAK", x.most(2, 2, 200), 7);
        due("ahead of the first one by OUTER", x.most(3, 0, 200), 15);
        due("behind the first one by INNER", x.most(3, 1, 200), 18);
        x = Check.withLongTerms();
        due("200 parts at rest", x.most(5, 0, 1), 200);
    }

    private static void mostBehindTheLast() {
        CHECK.sentence("Promise 15", "Returns the most parts that a term has in some steps");
        CountedTerms x = Check.with("@L0@L@@000@bc", "@L@Lb@00@@ccc", GROWS, "@L@00L@00");
        due("ahead of the first of two", x.most(0, 0, 1), 13);
        due("behind the second is less than ahead of the first", x.most(0, 0, 2), 13);
        due("behind the first by INNER", x.most(0, 1, 1), 14);
        due("behind the first is the most", x.most(1, 0, 1), 14);
        due("less comes behind that", x.most(1, 0, 200), 14);
        due("behind the second", x.most(2, 0, 2), 27);
        due("always as many", x.most(3, 0, 200), 9);
        due("the term stays", x.of(2, 0), 13);
    }

    private static void mostOfStuck() {
        CHECK.sentence("Promise 15", "behind the last one that is done");
        CountedTerms x = Check.withLongTerms();
        Check.write(x, "L@00");
        x.read(0);
        x.apply(0, 3, 1);
        x.bind(1, 1, 1);
        due("a step to 200", x.most(1, 0, 200), 200);
        x.apply(0, 2, 1);
        due("a step to 201 is not done", x.most(1, 0, 200), 105);
        due("it is stuck", x.step(1, 0), TOO_MANY);
        x = Check.with(GROWS);
        due("26 steps, and one that is not done", x.most(0, 0, 200), 13 + 7 * 26);
        due("as a run tells", x.run(0, 0, 200), 26);
        due("parts", x.of(0, 0), 195);
    }

    private static void alikeTells() {
        CHECK.sentence("Promise 16", "Tells whether two terms come to the same one by OUTER.");
        CountedTerms x = Check.with("@L0b", "b", "c", "@Lb@L@00L@00", "L@L0b", "Lb");
        due("one is at rest", x.alike(0, 1, 9), 1);
        due("the other way", x.alike(1, 0, 9), 1);
        due("to another one", x.alike(0, 2, 9), 0);
        due("both at rest", x.alike(1, 2, 1), 0);
        due("INNER does not end", x.alike(3, 1, 9), 1);
        due("OUTER goes on where WEAK is at rest", x.alike(4, 5, 9), 1);
        due("a register and itself", x.alike(0, 0, 9), 1);
    }

    private static void alikeFuel() {
        CHECK.sentence("Promise 16", "for each of both");
        CountedTerms x = Check.with("@L0@L0@L0b", "@L0@L0b", "@L0@L0@L0c");
        due("3 and 2 steps with fuel 2", x.alike(0, 1, 2), NONE);
        due("2 and 3 steps with fuel 2", x.alike(1, 0, 2), NONE);
        due("3 and 2 steps with fuel 3", x.alike(0, 1, 3), 1);
        due("3 and 3 steps with fuel 3", x.alike(0, 2, 3), 0);
        due("3 and 3 steps with fuel 2", x.alike(0, 2, 2), NONE);
    }

    private static void alikeNone() {
        CHECK.sentence("Promise 16", "NONE if one of both would not come to rest (as ends() tells it).");
        CountedTerms x = Check.with("@L@00L@00", GROWS, "b", "@L0b");
        for (int endless = 0; endless <= 1; endless++) {
            due("the first one", x.alike(endless, 2, 200), NONE);
            due("the second one", x.alike(3, endless, 200), NONE);
            due("both, though they are the same", x.alike(endless, endless, 200), NONE);
        }
        due("neither", x.alike(3, 2, 200), 1);
    }

    private static void nothingChanges() {
        CHECK.sentence("Terms", "what would be; nothing changes.");
        String[] texts = {"@L@00@L0b", "@L@00L@00", "LL1", GROWS, "@L0c", "d"};
        CountedTerms x = Check.with(texts);
        x.save(0);
        x.undo();
        x.save(1);
        x.put('d');
        for (int register = 0; register <= 5; register++) {
            x.ends(register, register % 3, 200);
            x.agree(register, 200);
            x.most(register, register % 3, 200);
            x.alike(register, 5 - register, 200);
        }
        due("changes", x.count(3), 5);
        due("the pad", x.count(2), 1);
        due("read it", x.read(5), 1);
        holdEach(x, texts);
        for (int slot = 0; slot <= 1; slot++) {
            x.bind(5, 3, 5);
            due("restore " + slot, x.restore(slot), 39);
            holdEach(x, "@L@00@L0b", "@L@00L@00", "LL1", GROWS, "@L0c", slot == 0 ? "d" : "a");
        }
    }

    private static void holdEach(CountedTerms x, String... texts) {
        for (int register = 0; register <= 5; register++) {
            CHECK.holds(x, register, texts[register]);
        }
    }
}
