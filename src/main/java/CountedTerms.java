/**
 * Terms with bound places as counts, in six registers, and their rewriting in three orders.
 * All rows are made when the object is made: no call makes an object or an array.
 */
public final class CountedTerms {
    public static final int NO_SUCH = -1, BAD_VALUE = -2, BAD_TEXT = -3, TOO_MANY = -4, NOT_POSSIBLE = -5, NONE = -6;
    public static final int OUTER = 0, INNER = 1, WEAK = 2;

    private static final int MOST_PARTS = 200;
    private static final int MOST_FUEL = 200;
    private static final int MOST_CHARACTERS = 60;
    private static final int REGISTERS = 6;
    private static final int CONSTANTS = 6;
    private static final int LETTERS = 20;
    private static final int SLOTS = 2;
    private static final int HISTORY = 6;

    // The kinds of parts, as numbers that part() tells.
    private static final int VARIABLE = 0, CONSTANT = 1, FUNCTION = 2, APPLICATION = 3;

    // States are numbered: what is now, those of the history, those of the slots.
    // The terms of what is now come first, so that a register's term has the register's number.
    private static final int NOW = 0;
    private static final int FIRST_OF_HISTORY = 1;
    private static final int FIRST_SLOT = FIRST_OF_HISTORY + HISTORY;
    private static final int STATES = FIRST_SLOT + SLOTS;

    // Terms that belong to no state: two for what would be, one for a term that is being made.
    private static final int TRIAL = STATES * REGISTERS;
    private static final int OTHER_TRIAL = TRIAL + 1;
    private static final int DRAFT = TRIAL + 2;
    private static final int TERMS = TRIAL + 3;

    private final Shelf shelf;
    private final Survey survey;
    private final Rewriter rewriter;
    private final History history;
    private final Pad pad;

    public CountedTerms() {
        shelf = new Shelf();
        survey = new Survey(shelf);
        rewriter = new Rewriter(shelf, survey);
        history = new History(shelf);
        pad = new Pad();
        for (int register = 0; register < REGISTERS; register++) {
            shelf.append(register, CONSTANT, 0);
        }
    }

    // ---- changes

    public int read(int register) {
        if (!isRegister(register)) {
            return NO_SUCH;
        }
        if (pad.firstWrong() != NONE) {
            return BAD_TEXT;
        }
        history.keepState();
        pad.writeTo(shelf, register);
        pad.empty();
        return shelf.length(register);
    }

    public int copy(int register, int to) {
        if (!isRegister(register) || !isRegister(to)) {
            return NO_SUCH;
        }
        history.keepState();
        shelf.duplicate(register, to);
        return shelf.length(to);
    }

    public int apply(int function, int argument, int to) {
        if (!isRegister(function) || !isRegister(argument) || !isRegister(to)) {
            return NO_SUCH;
        }
        if (1 + shelf.length(function) + shelf.length(argument) > MOST_PARTS) {
            return TOO_MANY;
        }
        history.keepState();
        shelf.clear(DRAFT);
        shelf.append(DRAFT, APPLICATION, 0);
        shelf.appendParts(DRAFT, function, 0, shelf.length(function));
        shelf.appendParts(DRAFT, argument, 0, shelf.length(argument));
        shelf.duplicate(DRAFT, to);
        return shelf.length(to);
    }

    public int bind(int register, int constant, int to) {
        if (!isRegister(register) || !isRegister(to)) {
            return NO_SUCH;
        }
        if (constant < 0 || constant >= CONSTANTS) {
            return BAD_VALUE;
        }
        if (1 + shelf.length(register) > MOST_PARTS) {
            return TOO_MANY;
        }
        history.keepState();
        int bound = draftFunction(register, constant);
        shelf.duplicate(DRAFT, to);
        return bound;
    }

    public int step(int register, int order) {
        if (!isRegister(register)) {
            return NO_SUCH;
        }
        if (!isOrder(order)) {
            return BAD_VALUE;
        }
        survey.look(register);
        int place = survey.next(order);
        if (place == NONE) {
            return NOT_POSSIBLE;
        }
        if (rewriter.lengthBehind(place) > MOST_PARTS) {
            return TOO_MANY;
        }
        history.keepState();
        rewriter.rewrite(place);
        return shelf.length(register);
    }

    public int run(int register, int order, int fuel) {
        if (!isRegister(register)) {
            return NO_SUCH;
        }
        if (!isOrder(order) || !isFuel(fuel)) {
            return BAD_VALUE;
        }
        history.keepState();
        rewriter.doSteps(register, order, fuel);
        return rewriter.stepsDone();
    }

    // ---- what there is

    public int of(int register, int what) {
        if (!isRegister(register)) {
            return NO_SUCH;
        }
        if (what < 0 || what > 10) {
            return BAD_VALUE;
        }
        survey.look(register);
        switch (what) {
            case 0: return shelf.length(register);
            case 1: return shelf.partsOfKind(register, FUNCTION);
            case 2: return shelf.partsOfKind(register, APPLICATION);
            case 3: return shelf.partsOfKind(register, VARIABLE);
            case 4: return shelf.partsOfKind(register, CONSTANT);
            case 5: return survey.mostAround();
            case 6: return survey.reduciblePlaces();
            case 7: return survey.next(OUTER);
            case 8: return survey.next(INNER);
            case 9: return survey.next(WEAK);
            default: return shelf.greatestVariable(register);
        }
    }

    public int part(int register, int place, int what) {
        if (!isRegister(register) || place < 0 || place >= shelf.length(register)) {
            return NO_SUCH;
        }
        if (what < 0 || what > 4) {
            return BAD_VALUE;
        }
        survey.look(register);
        switch (what) {
            case 0: return shelf.kind(register, place);
            case 1: return shelf.number(register, place);
            case 2: return survey.around(place);
            case 3: return survey.behind(place);
            default: return survey.binder(place);
        }
    }

    public int named(int register, int place) {
        if (!isRegister(register)) {
            return NO_SUCH;
        }
        survey.look(register);
        return survey.printed(place);
    }

    public int same(int register, int other) {
        if (!isRegister(register) || !isRegister(other)) {
            return NO_SUCH;
        }
        return shelf.alikePartByPart(register, other) ? 1 : 0;
    }

    public int count(int what) {
        switch (what) {
            case 0: return shelf.partsOfState(NOW);
            case 1: return registersAtRest();
            case 2: return pad.length();
            case 3: return history.length();
            default: return BAD_VALUE;
        }
    }

    // ---- what would be; nothing changes

    public int ends(int register, int order, int fuel) {
        if (!isRegister(register)) {
            return NO_SUCH;
        }
        if (!isOrder(order) || !isFuel(fuel)) {
            return BAD_VALUE;
        }
        shelf.duplicate(register, TRIAL);
        return rewriter.doSteps(TRIAL, order, fuel) ? rewriter.stepsDone() : NONE;
    }

    public int agree(int register, int fuel) {
        if (!isRegister(register)) {
            return NO_SUCH;
        }
        if (!isFuel(fuel)) {
            return BAD_VALUE;
        }
        shelf.duplicate(register, TRIAL);
        shelf.duplicate(register, OTHER_TRIAL);
        if (!rewriter.doSteps(TRIAL, OUTER, fuel) || !rewriter.doSteps(OTHER_TRIAL, INNER, fuel)) {
            return NONE;
        }
        return shelf.alikePartByPart(TRIAL, OTHER_TRIAL) ? 1 : 0;
    }

    public int most(int register, int order, int fuel) {
        if (!isRegister(register)) {
            return NO_SUCH;
        }
        if (!isOrder(order) || !isFuel(fuel)) {
            return BAD_VALUE;
        }
        shelf.duplicate(register, TRIAL);
        rewriter.doSteps(TRIAL, order, fuel);
        return rewriter.greatestLength();
    }

    public int alike(int register, int other, int fuel) {
        if (!isRegister(register) || !isRegister(other)) {
            return NO_SUCH;
        }
        if (!isFuel(fuel)) {
            return BAD_VALUE;
        }
        shelf.duplicate(register, TRIAL);
        shelf.duplicate(other, OTHER_TRIAL);
        if (!rewriter.doSteps(TRIAL, OUTER, fuel) || !rewriter.doSteps(OTHER_TRIAL, OUTER, fuel)) {
            return NONE;
        }
        return shelf.alikePartByPart(TRIAL, OTHER_TRIAL) ? 1 : 0;
    }

    // ---- texts

    public int put(long characters) {
        int given = Pad.charactersIn(characters);
        if (given == 0) {
            return BAD_VALUE;
        }
        if (pad.length() + given > MOST_CHARACTERS) {
            return TOO_MANY;
        }
        pad.append(characters, given);
        return pad.length();
    }

    public int wipe() {
        int length = pad.length();
        pad.empty();
        return length;
    }

    public int fault() {
        return pad.firstWrong();
    }

    // ---- undo, saving

    public int undo() {
        if (history.length() == 0) {
            return NOT_POSSIBLE;
        }
        history.takeBack();
        return history.length();
    }

    public int save(int slot) {
        if (!isSlot(slot)) {
            return BAD_VALUE;
        }
        shelf.duplicateState(NOW, FIRST_SLOT + slot);
        return shelf.partsOfState(NOW);
    }

    public int restore(int slot) {
        if (!isSlot(slot)) {
            return BAD_VALUE;
        }
        // Each term has a part: a state without parts was never saved.
        if (shelf.partsOfState(FIRST_SLOT + slot) == 0) {
            return NOT_POSSIBLE;
        }
        history.keepState();
        shelf.duplicateState(FIRST_SLOT + slot, NOW);
        return shelf.partsOfState(NOW);
    }

    // ---- what the calls share

    private static boolean isRegister(int register) {
        return register >= 0 && register < REGISTERS;
    }

    private static boolean isOrder(int order) {
        return order >= OUTER && order <= WEAK;
    }

    private static boolean isFuel(int fuel) {
        return fuel >= 1 && fuel <= MOST_FUEL;
    }

    private static boolean isSlot(int slot) {
        return slot >= 0 && slot < SLOTS;
    }

    /** Makes the draft a function that binds a constant, and tells how many places it binds. */
    private int draftFunction(int register, int constant) {
        survey.look(register);
        shelf.clear(DRAFT);
        shelf.append(DRAFT, FUNCTION, 0);
        int length = shelf.length(register);
        int bound = 0;
        for (int place = 0; place < length; place++) {
            int kind = shelf.kind(register, place);
            int number = shelf.number(register, place);
            if (kind == CONSTANT && number == constant) {
                // The new L is outside of all the others: as many as are around the place are passed over.
                shelf.append(DRAFT, VARIABLE, survey.around(place));
                bound++;
            } else {
                shelf.append(DRAFT, kind, number);
            }
        }
        return bound;
    }

    private int registersAtRest() {
        int set = 0;
        for (int register = 0; register < REGISTERS; register++) {
            survey.look(register);
            if (survey.next(OUTER) == NONE) {
                set |= 1 << register;
            }
        }
        return set;
    }

    /** Numbers at places; a place outside of it holds 0 and keeps nothing, so no index is ever wrong. */
    static final class Row {
        private final int[] numbers;

        Row(int size) {
            numbers = new int[Math.max(size, 0)];
        }

        int get(int place) {
            return place >= 0 && place < numbers.length ? numbers[place] : 0;
        }

        void set(int place, int number) {
            if (place >= 0 && place < numbers.length) {
                numbers[place] = number;
            }
        }

        /** Copies so many numbers from one place to another one, if all these places are there. */
        void move(int from, int to, int many) {
            int last = numbers.length - many;
            if (many > 0 && from >= 0 && from <= last && to >= 0 && to <= last) {
                System.arraycopy(numbers, from, numbers, to, many);
            }
        }
    }

    /** All terms of the object, each by its number. */
    static final class Shelf {
        // A part is kept as one number, to keep the rows short: its kind times this, and its own number.
        private static final int KIND = 256;

        private final Row lengths;
        private final Row parts;

        Shelf() {
            lengths = new Row(TERMS);
            parts = new Row(TERMS * MOST_PARTS);
        }

        int length(int term) {
            return lengths.get(term);
        }

        int kind(int term, int place) {
            return parts.get(term * MOST_PARTS + place) / KIND;
        }

        /** The variable or the constant as a number, 0 for other parts. */
        int number(int term, int place) {
            return parts.get(term * MOST_PARTS + place) % KIND;
        }

        void clear(int term) {
            lengths.set(term, 0);
        }

        /** A term never becomes longer than its row, as the calls refuse that ahead. */
        void append(int term, int kind, int number) {
            int length = lengths.get(term);
            if (length < MOST_PARTS) {
                parts.set(term * MOST_PARTS + length, kind * KIND + number);
                lengths.set(term, length + 1);
            }
        }

        /** Appends the parts of another term from one place up to another one. */
        void appendParts(int term, int other, int from, int to) {
            int length = lengths.get(term);
            int many = to - from;
            if (many > 0 && length + many <= MOST_PARTS) {
                parts.move(other * MOST_PARTS + from, term * MOST_PARTS + length, many);
                lengths.set(term, length + many);
            }
        }

        void duplicate(int term, int to) {
            if (term == to) {
                return;
            }
            clear(to);
            appendParts(to, term, 0, length(term));
        }

        void duplicateState(int state, int to) {
            for (int register = 0; register < REGISTERS; register++) {
                duplicate(state * REGISTERS + register, to * REGISTERS + register);
            }
        }

        boolean alikePartByPart(int term, int other) {
            if (length(term) != length(other)) {
                return false;
            }
            for (int place = 0; place < length(term); place++) {
                if (parts.get(term * MOST_PARTS + place) != parts.get(other * MOST_PARTS + place)) {
                    return false;
                }
            }
            return true;
        }

        int partsOfKind(int term, int kind) {
            int found = 0;
            for (int place = 0; place < length(term); place++) {
                if (kind(term, place) == kind) {
                    found++;
                }
            }
            return found;
        }

        int greatestVariable(int term) {
            int greatest = NONE;
            for (int place = 0; place < length(term); place++) {
                if (kind(term, place) == VARIABLE) {
                    greatest = Math.max(greatest, number(term, place));
                }
            }
            return greatest;
        }

        int partsOfState(int state) {
            int sum = 0;
            for (int register = 0; register < REGISTERS; register++) {
                sum += length(state * REGISTERS + register);
            }
            return sum;
        }
    }

    /** What can be seen of one term: where its terms end, what is around its parts, what comes next. */
    static final class Survey {
        private final Shelf shelf;
        private final Row behind;
        private final Row around;
        private final Row nearest;
        private int term;
        private int length;

        Survey(Shelf terms) {
            shelf = terms;
            behind = new Row(MOST_PARTS);
            around = new Row(MOST_PARTS);
            nearest = new Row(MOST_PARTS);
        }

        /** Takes a term into view; what is told afterwards holds until that term changes. */
        void look(int seen) {
            term = seen;
            length = shelf.length(seen);
            findEnds();
            findSurroundings();
        }

        int term() {
            return term;
        }

        /** The place behind the term that begins at a place. */
        int behind(int place) {
            return behind.get(place);
        }

        /** How many L are around a place. */
        int around(int place) {
            return around.get(place);
        }

        /** The place of the L that binds a variable, NONE for other parts. */
        int binder(int place) {
            if (shelf.kind(term, place) != VARIABLE) {
                return NONE;
            }
            int found = nearest.get(place);
            int passedOver = shelf.number(term, place);
            for (int i = 0; i < passedOver; i++) {
                found = nearest.get(found);
            }
            return found;
        }

        int mostAround() {
            int greatest = 0;
            for (int place = 0; place < length; place++) {
                greatest = Math.max(greatest, around(place));
            }
            return greatest;
        }

        int reduciblePlaces() {
            int found = 0;
            for (int place = 0; place < length; place++) {
                if (isReducible(place)) {
                    found++;
                }
            }
            return found;
        }

        /** The reducible place that comes next by an order, NONE if the term is at rest. */
        int next(int order) {
            if (order == INNER) {
                return firstInner();
            }
            for (int place = 0; place < length; place++) {
                if (isReducible(place) && (order == OUTER || around(place) == 0)) {
                    return place;
                }
            }
            return NONE;
        }

        /** A character of the term with names, NO_SUCH if there is none at this index. */
        int printed(int index) {
            int at = 0;
            for (int place = 0; place < length; place++) {
                if (at == index) {
                    return sign(place);
                }
                at++;
                if (shelf.kind(term, place) == FUNCTION) {
                    if (at == index) {
                        return letter(around(place));
                    }
                    at++;
                }
            }
            return NO_SUCH;
        }

        /** From the last part on, as a term's end is known by the ends of the terms in it. */
        private void findEnds() {
            for (int place = length - 1; place >= 0; place--) {
                int kind = shelf.kind(term, place);
                int end = place + 1;
                if (kind == FUNCTION) {
                    end = behind(place + 1);
                } else if (kind == APPLICATION) {
                    end = behind(behind(place + 1));
                }
                behind.set(place, end);
            }
        }

        /** From the first part on, as a part hands down what is around it to the terms in it. */
        private void findSurroundings() {
            around.set(0, 0);
            nearest.set(0, NONE);
            for (int place = 0; place < length; place++) {
                int kind = shelf.kind(term, place);
                if (kind == FUNCTION) {
                    around.set(place + 1, around(place) + 1);
                    nearest.set(place + 1, place);
                } else if (kind == APPLICATION) {
                    surroundAs(place, place + 1);
                    surroundAs(place, behind(place + 1));
                }
            }
        }

        private void surroundAs(int place, int inner) {
            around.set(inner, around.get(place));
            nearest.set(inner, nearest.get(place));
        }

        private boolean isReducible(int place) {
            return shelf.kind(term, place) == APPLICATION && shelf.kind(term, place + 1) == FUNCTION;
        }

        /** If a reducible place has others within it, the next one in the row is one of them. */
        private int firstInner() {
            int found = NONE;
            for (int place = 0; place < length; place++) {
                if (isReducible(place)) {
                    if (found != NONE && place >= behind(found)) {
                        return found;
                    }
                    found = place;
                }
            }
            return found;
        }

        private int sign(int place) {
            int number = shelf.number(term, place);
            switch (shelf.kind(term, place)) {
                case VARIABLE: return letter(around(place) - 1 - number);
                case CONSTANT: return 'a' + number;
                case FUNCTION: return 'L';
                default: return '@';
            }
        }

        private static int letter(int others) {
            return 'g' + others % LETTERS;
        }
    }

    /** Rewrites terms, one place or many steps, and remembers how the latest steps went. */
    static final class Rewriter {
        private final Shelf shelf;
        private final Survey survey;
        private int steps;
        private int greatest;

        Rewriter(Shelf terms, Survey view) {
            shelf = terms;
            survey = view;
        }

        int stepsDone() {
            return steps;
        }

        int greatestLength() {
            return greatest;
        }

        /** Does steps until the term is at rest, is stuck, or the fuel is used up; tells whether it is at rest then. */
        boolean doSteps(int term, int order, int fuel) {
            steps = 0;
            greatest = shelf.length(term);
            survey.look(term);
            for (int i = 0; i < fuel; i++) {
                int place = survey.next(order);
                if (place == NONE || lengthBehind(place) > MOST_PARTS) {
                    break;
                }
                rewrite(place);
                survey.look(term);
                steps++;
                greatest = Math.max(greatest, shelf.length(term));
            }
            return survey.next(order) == NONE;
        }

        /** How many parts the term in view would have behind a step at this place. */
        int lengthBehind(int place) {
            int term = survey.term();
            int argument = survey.behind(place + 1);
            int argumentLength = survey.behind(place) - argument;
            int replaced = 0;
            for (int inner = place + 2; inner < argument; inner++) {
                if (shelf.kind(term, inner) == VARIABLE && shelf.number(term, inner) == functionsWithin(place, inner)) {
                    replaced++;
                }
            }
            // The application, its L and the argument go; an argument comes for each variable that goes.
            return shelf.length(term) - 2 - argumentLength + replaced * (argumentLength - 1);
        }

        /** Rewrites a place of the term in view, which has to be looked at again then. */
        void rewrite(int place) {
            int term = survey.term();
            int argument = survey.behind(place + 1);
            shelf.clear(DRAFT);
            shelf.appendParts(DRAFT, term, 0, place);
            for (int inner = place + 2; inner < argument; inner++) {
                int kind = shelf.kind(term, inner);
                int number = shelf.number(term, inner);
                int within = functionsWithin(place, inner);
                if (kind != VARIABLE || number < within) {
                    shelf.append(DRAFT, kind, number);
                } else if (number == within) {
                    draftArgument(place, within);
                } else {
                    // One L less is passed over, as that of the function is gone.
                    shelf.append(DRAFT, VARIABLE, number - 1);
                }
            }
            shelf.appendParts(DRAFT, term, survey.behind(place), shelf.length(term));
            shelf.duplicate(DRAFT, term);
        }

        /** Appends the argument, for a place in the body that has so many L of the body around it. */
        private void draftArgument(int place, int within) {
            int term = survey.term();
            int end = survey.behind(place);
            for (int inner = survey.behind(place + 1); inner < end; inner++) {
                int kind = shelf.kind(term, inner);
                int number = shelf.number(term, inner);
                int ofArgument = survey.around(inner) - survey.around(place);
                if (kind == VARIABLE && number >= ofArgument) {
                    number += within;
                }
                shelf.append(DRAFT, kind, number);
            }
        }

        /** How many L of the body are around a place in the body of the function that is applied. */
        private int functionsWithin(int place, int inner) {
            return survey.around(inner) - survey.around(place) - 1;
        }
    }

    /** The latest states, in a ring, so that the oldest one is dropped by being written over. */
    static final class History {
        private final Shelf shelf;
        private int next;
        private int length;

        History(Shelf terms) {
            shelf = terms;
        }

        int length() {
            return length;
        }

        void keepState() {
            shelf.duplicateState(NOW, FIRST_OF_HISTORY + next);
            next = next == HISTORY - 1 ? 0 : next + 1;
            length = Math.min(length + 1, HISTORY);
        }

        void takeBack() {
            next = next == 0 ? HISTORY - 1 : next - 1;
            length = Math.max(length - 1, 0);
            shelf.duplicateState(FIRST_OF_HISTORY + next, NOW);
        }
    }

    /** The text that becomes a term. */
    static final class Pad {
        private static final int FIRST_CODE = 33, LAST_CODE = 126;
        private static final int AT_ONCE = 8, BITS = 8, LOWEST = 255;

        private final Row characters;
        private final Row awaited;
        private int length;

        Pad() {
            characters = new Row(MOST_CHARACTERS);
            awaited = new Row(MOST_CHARACTERS + 1);
        }

        /** How many characters a number gives, 0 if it gives none or is no such number. */
        static int charactersIn(long given) {
            long rest = given;
            int found = 0;
            while (found < AT_ONCE && (rest & LOWEST) != 0) {
                long code = rest & LOWEST;
                if (code < FIRST_CODE || code > LAST_CODE) {
                    return 0;
                }
                rest >>>= BITS;
                found++;
            }
            return rest == 0 ? found : 0;
        }

        int length() {
            return length;
        }

        void empty() {
            length = 0;
        }

        void append(long given, int many) {
            for (int i = many - 1; i >= 0 && length < MOST_CHARACTERS; i--) {
                characters.set(length, (int) ((given >>> (i * BITS)) & LOWEST));
                length++;
            }
        }

        /**
         * The fault of the text, NONE if there is none. The terms that are still awaited
         * are kept as a stack: for each of them, how many L are around it.
         */
        int firstWrong() {
            int open = 1;
            awaited.set(0, 0);
            for (int place = 0; place < length; place++) {
                if (open == 0) {
                    return place;
                }
                int around = awaited.get(open - 1);
                int character = characters.get(place);
                int kind = kindOf(character);
                if (kind == NONE || kind == VARIABLE && character - '0' >= around) {
                    return place;
                }
                if (kind == FUNCTION) {
                    awaited.set(open - 1, around + 1);
                } else if (kind == APPLICATION) {
                    awaited.set(open, around);
                    open++;
                } else {
                    open--;
                }
            }
            return open == 0 ? NONE : length;
        }

        /** Makes the text a term; it must have no fault. */
        void writeTo(Shelf shelf, int term) {
            shelf.clear(term);
            for (int place = 0; place < length; place++) {
                int character = characters.get(place);
                int kind = kindOf(character);
                int number = 0;
                if (kind == VARIABLE) {
                    number = character - '0';
                } else if (kind == CONSTANT) {
                    number = character - 'a';
                }
                shelf.append(term, kind, number);
            }
        }

        /** The kind of part that a character is, NONE if it is no part. */
        private static int kindOf(int character) {
            if (character == 'L') {
                return FUNCTION;
            }
            if (character == '@') {
                return APPLICATION;
            }
            if (character >= '0' && character <= '9') {
                return VARIABLE;
            }
            return character >= 'a' && character < 'a' + CONSTANTS ? CONSTANT : NONE;
        }
    }
}
