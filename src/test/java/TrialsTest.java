/** Promises 13 to 16: ends, agree, most and alike, which change nothing. */
public final class TrialsTest {
    private static final Check CHECK = new Check("TrialsTest");
    private static final int NO_SUCH = -1, BAD_VALUE = -2, NONE = -6;
    private static final int[] NO_REGISTERS = {-1, 6, Integer.MIN_VALUE, Integer.MAX_VALUE};
    private static final int[] NO_ORDERS = {-1, 3, Integer.MIN_VALUE, Integer.MAX_VALUE};
    private static final int[] NO_FUELS = {0, -1, 201, Integer.MIN_VALUE, Integer.MAX_VALUE};

    public static void main(String[] args) {
        ends();
        agree();
        most();
        alike();
        CHECK.finish();
    }

    private static void due(String call, long got, long want) {
        CHECK.due(call, got, want);
    }

    private static void ends() {
        CountedTerms x = Check.with("@L0@L0@L0a", "@LaL0", "@LL0@L@00L@00", "@L@@000L@@000", "L@L0a", "@L@00L@00");
        for (int register : NO_REGISTERS) {
            due("ends of " + register, x.ends(register, 3, 0), NO_SUCH);
        }
        for (int order : NO_ORDERS) {
            due("ends by " + order, x.ends(0, order, 1), BAD_VALUE);
        }
        for (int fuel : NO_FUELS) {
            due("ends with fuel " + fuel, x.ends(0, 0, fuel), BAD_VALUE);
        }
        for (int order = 0; order < 3; order++) {
            due("not with fuel 2", x.ends(0, order, 2), NONE);
            due("just with fuel 3", x.ends(0, order, 3), 3);
            due("with fuel 200", x.ends(0, order, 200), 3);
            due("stuck", x.ends(3, order, 200), NONE);
            due("without end", x.ends(5, order, 200), NONE);
        }
        due("OUTER drops the argument", x.ends(2, 0, 200), 1);
        due("INNER does not", x.ends(2, 1, 200), NONE);
        due("WEAK at rest", x.ends(4, 2, 1), 0);
        due("OUTER not at rest", x.ends(4, 0, 1), 1);
        due("changes", x.count(3), 6);
        CHECK.due("the term stays", Check.text(x, 0), "@L0@L0@L0a");
        CHECK.due("the other term stays", Check.text(x, 3), "@L@@000L@@000");
    }

    private static void agree() {
        CountedTerms x = Check.with("@L@00@L0b", "@LL0@L@00L@00", "@L@@000L@@000", "LL1", "@La@L0b");
        for (int register : NO_REGISTERS) {
            due("agree " + register, x.agree(register, 0), NO_SUCH);
        }
        for (int fuel : NO_FUELS) {
            due("agree with fuel " + fuel, x.agree(0, fuel), BAD_VALUE);
        }
        due("OUTER takes 3", x.ends(0, 0, 200), 3);
        due("INNER takes 2", x.ends(0, 1, 200), 2);
        due("agree with fuel 2", x.agree(0, 2), NONE);
        due("agree with fuel 3", x.agree(0, 3), 1);
        due("INNER takes 2, OUTER 1", x.agree(4, 1), NONE);
        due("agree with fuel 2", x.agree(4, 2), 1);
        due("INNER without end", x.agree(1, 200), NONE);
        due("stuck", x.agree(2, 200), NONE);
        due("at rest", x.agree(3, 1), 1);
        due("changes", x.count(3), 5);
        CHECK.due("the term stays", Check.text(x, 0), "@L@00@L0b");
    }

    private static void most() {
        CountedTerms x = Check.with("@L@@@0000@L0b", "@L@@000L@@000", "@LaL@L0b", "LL1", "@LL@@@1111@@abc", "@@LL@01@abc");
        for (int register : NO_REGISTERS) {
            due("most of " + register, x.most(register, 3, 0), NO_SUCH);
        }
        for (int order : NO_ORDERS) {
            due("most by " + order, x.most(0, order, 1), BAD_VALUE);
        }
        for (int fuel : NO_FUELS) {
            due("most with fuel " + fuel, x.most(0, 0, fuel), BAD_VALUE);
        }
        due("OUTER grows", x.most(0, 0, 200), 19);
        due("INNER does not", x.most(0, 1, 200), 13);
        due("behind one step", x.most(0, 0, 1), 19);
        due("ahead of the first step", x.most(2, 0, 200), 8);
        due("at rest", x.most(3, 0, 200), 3);
        due("behind the last step", x.most(4, 0, 1), 24);
        due("until stuck", x.most(1, 0, 200), 195);
        due("with fuel 3", x.most(1, 0, 3), 34);
        due("by WEAK", x.most(1, 2, 3), 34);
        due("ahead of less", x.most(5, 2, 200), 11);
        due("changes", x.count(3), 6);
        CHECK.due("the term stays", Check.text(x, 1), "@L@@000L@@000");
    }

    private static void alike() {
        CountedTerms x = Check.with("@L0@L0b", "@Lb@L@00L@00", "b", "@L@@000L@@000", "LL1", "@L0LL1");
        for (int register : NO_REGISTERS) {
            due("alike " + register, x.alike(register, 0, 0), NO_SUCH);
            due("alike to " + register, x.alike(0, register, 0), NO_SUCH);
        }
        for (int fuel : NO_FUELS) {
            due("alike with fuel " + fuel, x.alike(0, 0, fuel), BAD_VALUE);
        }
        due("with fuel 1", x.alike(0, 1, 1), NONE);
        due("with fuel 1, the other way", x.alike(1, 0, 1), NONE);
        due("with fuel 2", x.alike(0, 1, 2), 1);
        due("by OUTER alone", x.alike(1, 2, 1), 1);
        due("to one that is at rest", x.alike(2, 0, 2), 1);
        due("other terms", x.alike(2, 4, 2), 0);
        due("functions", x.alike(4, 5, 2), 1);
        due("stuck", x.alike(2, 3, 200), NONE);
        due("stuck, the other way", x.alike(3, 2, 200), NONE);
        due("a register with itself", x.alike(1, 1, 1), 1);
        due("changes", x.count(3), 6);
        CHECK.due("the term stays", Check.text(x, 0), "@L0@L0b");
    }
}
