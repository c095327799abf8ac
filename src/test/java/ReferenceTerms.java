import java.util.ArrayList;
import java.util.HashMap;
import java.util.List;
import java.util.Map;

/**
 * A second program for the same document, slow and plain, to compare answers with. It has nothing
 * of the first one's ways: terms are trees that never change, a variable points to its L, and the
 * counts are made only to be told.
 */
final class ReferenceTerms {
    private static final int NO_SUCH = -1, BAD_VALUE = -2, BAD_TEXT = -3, TOO_MANY = -4, NOT_POSSIBLE = -5, NONE = -6;

    private static final class Node {
        final char kind;
        int constant;
        Node binder;
        Node first;
        Node second;

        Node(char kind) {
            this.kind = kind;
        }
    }

    /** A part of a row: the node, the L around it from the outside in, its place and the place behind. */
    private static final class Part {
        final Node node;
        final List<Node> around;
        final int place;
        int behind;

        Part(Node node, List<Node> around, int place) {
            this.node = node;
            this.around = around;
            this.place = place;
        }

        int variable() {
            return around.size() - 1 - around.indexOf(node.binder);
        }

        boolean reducible() {
            return node.kind == '@' && node.first.kind == 'L';
        }
    }

    private Node[] registers = new Node[6];
    private final Node[][] slots = new Node[2][];
    private final List<Node[]> history = new ArrayList<>();
    private String pad = "";

    ReferenceTerms() {
        for (int i = 0; i < 6; i++) {
            registers[i] = constant(0);
        }
    }

    // ---- trees

    private static Node constant(int number) {
        Node node = new Node('c');
        node.constant = number;
        return node;
    }

    private static Node application(Node first, Node second) {
        Node node = new Node('@');
        node.first = first;
        node.second = second;
        return node;
    }

    private static List<Part> row(Node term) {
        List<Part> parts = new ArrayList<>();
        list(term, List.of(), parts);
        return parts;
    }

    private static void list(Node node, List<Node> around, List<Part> parts) {
        Part part = new Part(node, around, parts.size());
        parts.add(part);
        if (node.kind == 'L') {
            List<Node> inner = new ArrayList<>(around);
            inner.add(node);
            list(node.first, inner, parts);
        } else if (node.kind == '@') {
            list(node.first, around, parts);
            list(node.second, around, parts);
        }
        part.behind = parts.size();
    }

    /** A copy in which one application is rewritten; 'given' tells what stands for the variables of an L. */
    private static Node rewritten(Node node, Node place, Map<Node, Node> copies, Map<Node, Node> given) {
        switch (node.kind) {
            case 'c':
                return constant(node.constant);
            case 'v': {
                if (given.containsKey(node.binder)) {
                    return rewritten(given.get(node.binder), place, new HashMap<>(copies), given);
                }
                Node copy = new Node('v');
                copy.binder = copies.getOrDefault(node.binder, node.binder);
                return copy;
            }
            case 'L': {
                Node copy = new Node('L');
                Map<Node, Node> inner = new HashMap<>(copies);
                inner.put(node, copy);
                copy.first = rewritten(node.first, place, inner, given);
                return copy;
            }
            default:
                if (node == place) {
                    Map<Node, Node> more = new HashMap<>(given);
                    more.put(node.first, node.second);
                    return rewritten(node.first.first, place, copies, more);
                }
                return application(rewritten(node.first, place, copies, given), rewritten(node.second, place, copies, given));
        }
    }

    private static Node fresh(Node term) {
        return rewritten(term, null, Map.of(), Map.of());
    }

    private static Node bound(Node node, int number, Node binder, Map<Node, Node> copies) {
        switch (node.kind) {
            case 'c': {
                if (node.constant != number) {
                    return constant(node.constant);
                }
                Node variable = new Node('v');
                variable.binder = binder;
                return variable;
            }
            case 'v': {
                Node copy = new Node('v');
                copy.binder = copies.get(node.binder);
                return copy;
            }
            case 'L': {
                Node copy = new Node('L');
                copies.put(node, copy);
                copy.first = bound(node.first, number, binder, copies);
                return copy;
            }
            default:
                return application(bound(node.first, number, binder, copies), bound(node.second, number, binder, copies));
        }
    }

    private static String text(Node term) {
        StringBuilder text = new StringBuilder();
        for (Part part : row(term)) {
            switch (part.node.kind) {
                case 'c' -> text.append((char) ('a' + part.node.constant));
                case 'v' -> text.append('(').append(part.variable()).append(')');
                default -> text.append(part.node.kind);
            }
        }
        return text.toString();
    }

    private static String names(Node term) {
        StringBuilder names = new StringBuilder();
        for (Part part : row(term)) {
            switch (part.node.kind) {
                case 'c' -> names.append((char) ('a' + part.node.constant));
                case 'v' -> names.append("ghijklmnopqrstuvwxyz".charAt(part.around.indexOf(part.node.binder) % 20));
                case 'L' -> names.append('L').append("ghijklmnopqrstuvwxyz".charAt(part.around.size() % 20));
                default -> names.append('@');
            }
        }
        return names.toString();
    }

    private static Part next(Node term, int order) {
        List<Part> reducible = new ArrayList<>();
        for (Part part : row(term)) {
            if (part.reducible()) {
                reducible.add(part);
            }
        }
        for (Part part : reducible) {
            boolean inner = false;
            for (Part other : reducible) {
                inner |= other.place > part.place && other.place < part.behind;
            }
            if (order == 0 || order == 1 && !inner || order == 2 && part.around.isEmpty()) {
                return part;
            }
        }
        return null;
    }

    /** The term behind a step, null if it is at rest or stuck. */
    private static Node stepped(Node term, int order) {
        Part part = next(term, order);
        if (part == null) {
            return null;
        }
        Node result = rewritten(term, part.node, Map.of(), Map.of());
        return row(result).size() > 200 ? null : result;
    }

    /** The terms of a run, from the first one on. */
    private static List<Node> terms(Node term, int order, int fuel) {
        List<Node> terms = new ArrayList<>();
        terms.add(term);
        while (terms.size() <= fuel) {
            Node result = stepped(terms.get(terms.size() - 1), order);
            if (result == null) {
                break;
            }
            terms.add(result);
        }
        return terms;
    }

    private static Node last(List<Node> terms) {
        return terms.get(terms.size() - 1);
    }

    // ---- texts

    /** Reads a term from a place on: the place behind it, or -1 - the place of the fault. */
    private static int readFrom(String text, int place, List<Node> around, Node[] result) {
        if (place >= text.length()) {
            return -1 - text.length();
        }
        char c = text.charAt(place);
        if (c == 'L') {
            Node node = new Node('L');
            List<Node> inner = new ArrayList<>(around);
            inner.add(node);
            Node[] body = new Node[1];
            int behind = readFrom(text, place + 1, inner, body);
            node.first = body[0];
            result[0] = node;
            return behind;
        }
        if (c == '@') {
            Node[] first = new Node[1];
            Node[] second = new Node[1];
            int middle = readFrom(text, place + 1, around, first);
            if (middle < 0) {
                return middle;
            }
            int behind = readFrom(text, middle, around, second);
            result[0] = application(first[0], second[0]);
            return behind;
        }
        if ("abcdef".indexOf(c) >= 0) {
            result[0] = constant("abcdef".indexOf(c));
            return place + 1;
        }
        int digit = "0123456789".indexOf(c);
        if (digit < 0 || digit >= around.size()) {
            return -1 - place;
        }
        result[0] = new Node('v');
        result[0].binder = around.get(around.size() - 1 - digit);
        return place + 1;
    }

    private int fault(Node[] result) {
        int behind = readFrom(pad, 0, List.of(), result);
        if (behind < 0) {
            return -1 - behind;
        }
        return behind < pad.length() ? behind : NONE;
    }

    // ---- the calls

    private static boolean no(int register) {
        return register < 0 || register > 5;
    }

    private static boolean badOrder(int order) {
        return order < 0 || order > 2;
    }

    private static boolean badFuel(int fuel) {
        return fuel < 1 || fuel > 200;
    }

    private int size(int register) {
        return row(registers[register]).size();
    }

    private void change() {
        history.add(registers.clone());
        if (history.size() > 6) {
            history.remove(0);
        }
    }

    private int given(int register, Node term) {
        change();
        registers[register] = term;
        return size(register);
    }

    int read(int register) {
        if (no(register)) {
            return NO_SUCH;
        }
        Node[] result = new Node[1];
        if (fault(result) != NONE) {
            return BAD_TEXT;
        }
        pad = "";
        return given(register, result[0]);
    }

    int copy(int register, int to) {
        return no(register) || no(to) ? NO_SUCH : given(to, registers[register]);
    }

    int apply(int function, int argument, int to) {
        if (no(function) || no(argument) || no(to)) {
            return NO_SUCH;
        }
        // An L must stand only once in a tree, so both sides are copied.
        Node made = application(fresh(registers[function]), fresh(registers[argument]));
        return row(made).size() > 200 ? TOO_MANY : given(to, made);
    }

    int bind(int register, int number, int to) {
        if (no(register) || no(to)) {
            return NO_SUCH;
        }
        if (number < 0 || number > 5) {
            return BAD_VALUE;
        }
        Node function = new Node('L');
        function.first = bound(registers[register], number, function, new HashMap<>());
        int places = 0;
        for (Part part : row(function)) {
            places += part.node.binder == function ? 1 : 0;
        }
        if (row(function).size() > 200) {
            return TOO_MANY;
        }
        given(to, function);
        return places;
    }

    int step(int register, int order) {
        if (no(register)) {
            return NO_SUCH;
        }
        if (badOrder(order)) {
            return BAD_VALUE;
        }
        if (next(registers[register], order) == null) {
            return NOT_POSSIBLE;
        }
        Node result = stepped(registers[register], order);
        return result == null ? TOO_MANY : given(register, result);
    }

    int run(int register, int order, int fuel) {
        if (no(register)) {
            return NO_SUCH;
        }
        if (badOrder(order) || badFuel(fuel)) {
            return BAD_VALUE;
        }
        List<Node> terms = terms(registers[register], order, fuel);
        given(register, last(terms));
        return terms.size() - 1;
    }

    int of(int register, int what) {
        if (no(register)) {
            return NO_SUCH;
        }
        if (what < 0 || what > 10) {
            return BAD_VALUE;
        }
        if (what >= 7 && what <= 9) {
            Part part = next(registers[register], what - 7);
            return part == null ? NONE : part.place;
        }
        int kinds = 0;
        int deepest = 0;
        int reducible = 0;
        int greatest = NONE;
        for (Part part : row(registers[register])) {
            kinds += part.node.kind == " L@vc".charAt(Math.min(what, 4)) ? 1 : 0;
            deepest = Math.max(deepest, part.around.size());
            reducible += part.reducible() ? 1 : 0;
            greatest = part.node.kind == 'v' ? Math.max(greatest, part.variable()) : greatest;
        }
        return what == 0 ? size(register) : what == 5 ? deepest : what == 6 ? reducible : what == 10 ? greatest : kinds;
    }

    int part(int register, int place, int what) {
        if (no(register) || place < 0 || place >= size(register)) {
            return NO_SUCH;
        }
        if (what < 0 || what > 4) {
            return BAD_VALUE;
        }
        List<Part> row = row(registers[register]);
        Part part = row.get(place);
        boolean variable = part.node.kind == 'v';
        switch (what) {
            case 0: return "vcL@".indexOf(part.node.kind);
            case 1: return variable ? part.variable() : part.node.constant;
            case 2: return part.around.size();
            case 3: return part.behind;
            default:
        }
        for (Part other : row) {
            if (variable && other.node == part.node.binder) {
                return other.place;
            }
        }
        return NONE;
    }

    int named(int register, int place) {
        if (no(register)) {
            return NO_SUCH;
        }
        String names = names(registers[register]);
        return place < 0 || place >= names.length() ? NO_SUCH : names.charAt(place);
    }

    int same(int register, int other) {
        if (no(register) || no(other)) {
            return NO_SUCH;
        }
        return text(registers[register]).equals(text(registers[other])) ? 1 : 0;
    }

    int count(int what) {
        int parts = 0;
        int rest = 0;
        for (int i = 0; i < 6; i++) {
            parts += size(i);
            rest += next(registers[i], 0) == null ? 1 << i : 0;
        }
        switch (what) {
            case 0: return parts;
            case 1: return rest;
            case 2: return pad.length();
            case 3: return history.size();
            default: return BAD_VALUE;
        }
    }

    int ends(int register, int order, int fuel) {
        if (no(register)) {
            return NO_SUCH;
        }
        if (badOrder(order) || badFuel(fuel)) {
            return BAD_VALUE;
        }
        List<Node> terms = terms(registers[register], order, fuel);
        return next(last(terms), order) == null ? terms.size() - 1 : NONE;
    }

    private static int reached(Node term, int order, Node other, int otherOrder, int fuel) {
        Node end = last(terms(term, order, fuel));
        Node otherEnd = last(terms(other, otherOrder, fuel));
        if (next(end, order) != null || next(otherEnd, otherOrder) != null) {
            return NONE;
        }
        return text(end).equals(text(otherEnd)) ? 1 : 0;
    }

    int agree(int register, int fuel) {
        if (no(register)) {
            return NO_SUCH;
        }
        return badFuel(fuel) ? BAD_VALUE : reached(registers[register], 0, registers[register], 1, fuel);
    }

    int most(int register, int order, int fuel) {
        if (no(register)) {
            return NO_SUCH;
        }
        if (badOrder(order) || badFuel(fuel)) {
            return BAD_VALUE;
        }
        int most = 0;
        for (Node term : terms(registers[register], order, fuel)) {
            most = Math.max(most, row(term).size());
        }
        return most;
    }

    int alike(int register, int other, int fuel) {
        if (no(register) || no(other)) {
            return NO_SUCH;
        }
        return badFuel(fuel) ? BAD_VALUE : reached(registers[register], 0, registers[other], 0, fuel);
    }

    int put(long characters) {
        String text = "";
        boolean ended = false;
        for (int i = 0; i < 8; i++) {
            int code = (int) (characters >> 8 * i & 255);
            if (code == 0) {
                ended = true;
            } else if (ended || code < 33 || code > 126) {
                return BAD_VALUE;
            } else {
                text = (char) code + text;
            }
        }
        if (text.isEmpty()) {
            return BAD_VALUE;
        }
        if (pad.length() + text.length() > 60) {
            return TOO_MANY;
        }
        pad += text;
        return pad.length();
    }

    int wipe() {
        int length = pad.length();
        pad = "";
        return length;
    }

    int fault() {
        return fault(new Node[1]);
    }

    int undo() {
        if (history.isEmpty()) {
            return NOT_POSSIBLE;
        }
        registers = history.remove(history.size() - 1);
        return history.size();
    }

    int save(int slot) {
        if (slot < 0 || slot > 1) {
            return BAD_VALUE;
        }
        slots[slot] = registers.clone();
        return count(0);
    }

    int restore(int slot) {
        if (slot < 0 || slot > 1) {
            return BAD_VALUE;
        }
        if (slots[slot] == null) {
            return NOT_POSSIBLE;
        }
        change();
        registers = slots[slot].clone();
        return count(0);
    }
}
