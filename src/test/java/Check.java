/** What the tests share: it compares answers, counts the wrong ones, and ends the test. */
final class Check {
    private final String test;
    private String sentence = "";
    private int compared;
    private int comparedAhead = -1;
    private int wrong;

    Check(String test) {
        this.test = test;
    }

    /** Names the sentence of the document by which the next answers are due; SentencesTest looks it up there. */
    void sentence(String section, String words) {
        endSentence();
        sentence = " by " + section + ": " + words;
    }

    void due(String call, long got, long want) {
        compared++;
        if (got != want) {
            wrong++;
            System.out.println(test + ": " + call + " answered " + got + ", due is " + want + sentence);
        }
    }

    void due(String call, String got, String want) {
        compared++;
        if (!got.equals(want)) {
            wrong++;
            System.out.println(test + ": " + call + " told " + got + ", due is " + want + sentence);
        }
    }

    void holds(CountedTerms x, int register, String text) {
        due("the term of " + register, text(x, register), text);
    }

    /** A sentence that no answer was compared by has not been tested. */
    private void endSentence() {
        if (comparedAhead == compared) {
            wrong++;
            System.out.println(test + ": nothing is due" + sentence);
        }
        comparedAhead = compared;
    }

    void finish() {
        if (!sentence.isEmpty()) {
            endSentence();
        }
        System.out.println(test + ": " + compared + " answers, " + wrong + " wrong");
        if (wrong != 0 || compared == 0) {
            System.exit(1);
        }
    }

    /** Up to 8 characters as the number that put() takes. */
    static long packed(String characters) {
        long number = 0;
        for (int i = 0; i < characters.length(); i++) {
            number = number << 8 | characters.charAt(i);
        }
        return number;
    }

    /** Appends a text to the pad, in pieces. */
    static void write(CountedTerms x, String text) {
        for (int i = 0; i < text.length(); i += 8) {
            x.put(packed(text.substring(i, Math.min(i + 8, text.length()))));
        }
    }

    /** A new object whose registers, from 0 on, hold the terms of these texts. */
    static CountedTerms with(String... texts) {
        CountedTerms x = new CountedTerms();
        for (int register = 0; register < texts.length; register++) {
            write(x, texts[register]);
            x.read(register);
        }
        return x;
    }

    /** A term as a text; a variable above 9 stands in brackets. */
    static String text(CountedTerms x, int register) {
        StringBuilder text = new StringBuilder();
        int length = x.of(register, 0);
        for (int place = 0; place < length; place++) {
            int number = x.part(register, place, 1);
            switch (x.part(register, place, 0)) {
                case 0 -> text.append(number > 9 ? "(" + number + ")" : "" + number);
                case 1 -> text.append((char) ('a' + number));
                case 2 -> text.append('L');
                default -> text.append('@');
            }
        }
        return text.toString();
    }

    /** A term with names, as named() tells it. */
    static String names(CountedTerms x, int register) {
        StringBuilder names = new StringBuilder();
        for (int place = 0; place < 400; place++) {
            int code = x.named(register, place);
            if (code < 0) {
                break;
            }
            names.append((char) code);
        }
        return names.toString();
    }

    /** A text of n parts: a chain of applications of the constant a to itself (n is odd), or with an L ahead. */
    static String chain(int parts) {
        int applications = (parts - 1) / 2;
        String text = "@".repeat(applications) + "a".repeat(applications + 1);
        return parts % 2 == 1 ? text : "L" + text;
    }

    /** Puts so many L in front of a term that has no f: they bind nothing. */
    static void deepen(CountedTerms x, int register, int times) {
        for (int i = 0; i < times; i++) {
            x.bind(register, 5, register);
        }
    }

    /** A new object whose registers 2 to 5 have terms of 100, 99, 199 and 200 parts, all at rest. */
    static CountedTerms withLongTerms() {
        CountedTerms x = with(chain(49));
        x.apply(0, 0, 3);
        x.bind(3, 1, 2);
        x.apply(3, 3, 4);
        x.bind(4, 1, 5);
        return x;
    }
}
