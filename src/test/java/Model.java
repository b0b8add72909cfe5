import java.util.ArrayDeque;
import java.util.ArrayList;
import java.util.Deque;
import java.util.HashMap;
import java.util.List;
import java.util.Map;
import java.util.NoSuchElementException;
import java.util.TreeSet;

/** A second, slow reading of the document: trees and texts, nothing kept that can be asked anew. */
final class Model {
    static final int NONE = -1;

    /** A byte, or an occurrence. */
    static final class Node {
        char literal;
        Occurrence occurrence;
    }

    static final class Occurrence {
        int number;
        int field;
        int change;
        List<Node> body;
        Occurrence parent;

        int nesting() {
            return parent == null ? 0 : parent.nesting() + 1;
        }
    }

    static final class Snippet {
        String name;
        List<Node> body = new ArrayList<>();
        List<Occurrence> all = new ArrayList<>();

        /** Fields on which a field depends, by a walk over the occurrences. */
        TreeSet<Integer> depends(int field) {
            TreeSet<Integer> reached = new TreeSet<>();
            Deque<Integer> open = new ArrayDeque<>();
            open.add(field);
            while (!open.isEmpty()) {
                int from = open.remove();
                for (Occurrence o : all) {
                    for (Occurrence around = o.parent; around != null; around = around.parent) {
                        if (around.field == from && reached.add(o.field)) {
                            open.add(o.field);
                        }
                    }
                }
            }
            return reached;
        }
    }

    static final class ParseError extends RuntimeException {
        private static final long serialVersionUID = 1L;
        final int code;
        final int position;

        ParseError(int code, int position) {
            this.code = code;
            this.position = position;
        }
    }

    static final class Parser {
        final String text;
        int at;
        final List<Snippet> snippets = new ArrayList<>();
        boolean byPlaces;
        Snippet current;

        Parser(String text) {
            this.text = text;
        }

        void library() {
            while (true) {
                blanks();
                if (at == text.length()) {
                    return;
                }
                int start = at;
                String word = word();
                if (word.equals("snippet")) {
                    if (snippets.size() == 8) {
                        throw new ParseError(5, start);
                    }
                    snippet();
                } else if (word.equals("order")) {
                    blanks();
                    start = at;
                    word = word();
                    if (!word.equals("numbers") && !word.equals("places")) {
                        throw new ParseError(1, start);
                    }
                    blanks();
                    expect(';');
                    byPlaces = word.equals("places");
                } else {
                    throw new ParseError(1, start);
                }
            }
        }

        void snippet() {
            blanks();
            int start = at;
            current = new Snippet();
            current.name = word();
            if (current.name.isEmpty() || current.name.length() > 8) {
                throw new ParseError(1, start);
            }
            for (Snippet other : snippets) {
                if (other.name.equals(current.name)) {
                    throw new ParseError(3, start);
                }
            }
            blanks();
            expect('{');
            body(current.body, null);
            snippets.add(current);
        }

        /** Reads up to the closing brace and past it. */
        void body(List<Node> into, Occurrence parent) {
            while (peek() != '}') {
                char c = peek();
                if (c == '$') {
                    dollar(into, parent);
                } else if (c == '\n' || c >= ' ' && c <= '~') {
                    literal(into, c);
                } else {
                    throw new ParseError(1, at);
                }
            }
            at++;
        }

        void dollar(List<Node> into, Occurrence parent) {
            int dollar = at;
            at++;
            char c = peek();
            if (c == '$' || c == '}') {
                literal(into, c);
                return;
            }
            boolean braced = c == '{';
            if (braced) {
                at++;
                c = peek();
            }
            if (c < '0' || c > '9') {
                throw new ParseError(1, at);
            }
            Occurrence o = occurrence(into, parent, c - '0', dollar);
            at++;
            if (braced) {
                rest(o, dollar);
            }
        }

        Occurrence occurrence(List<Node> into, Occurrence parent, int field, int dollar) {
            Occurrence o = new Occurrence();
            o.field = field;
            o.parent = parent;
            o.number = current.all.size();
            current.all.add(o);
            for (int f = 0; f < 10 && parent != null; f++) {
                if (current.depends(f).contains(f)) {
                    throw new ParseError(4, dollar);
                }
            }
            if (current.all.size() > 60) {
                throw new ParseError(5, dollar);
            }
            Node node = new Node();
            node.occurrence = o;
            into.add(node);
            return o;
        }

        void rest(Occurrence o, int dollar) {
            switch (peek()) {
                case '}':
                    at++;
                    return;
                case '/':
                    at++;
                    o.change = "?ulrfn".indexOf(peek());
                    if (o.change < 1) {
                        throw new ParseError(1, at);
                    }
                    at++;
                    expect('}');
                    return;
                case ':':
                    if (o.nesting() == 4) {
                        throw new ParseError(2, dollar);
                    }
                    at++;
                    o.body = new ArrayList<>();
                    body(o.body, o);
                    return;
                default:
                    throw new ParseError(1, at);
            }
        }

        void literal(List<Node> into, char c) {
            Node node = new Node();
            node.literal = c;
            into.add(node);
            at++;
        }

        char peek() {
            if (at >= text.length()) {
                throw new ParseError(1, text.length());
            }
            return text.charAt(at);
        }

        void expect(char c) {
            if (peek() != c) {
                throw new ParseError(1, at);
            }
            at++;
        }

        void blanks() {
            while (at < text.length() && " \n".indexOf(text.charAt(at)) >= 0) {
                at++;
            }
        }

        String word() {
            int start = at;
            while (at < text.length() && text.charAt(at) >= 'a' && text.charAt(at) <= 'z') {
                at++;
            }
            return text.substring(start, at);
        }
    }

    /** A snippet that is being filled in; asks of it are answered anew each time. */
    static final class Session {
        final Snippet snippet;
        int number;
        int current;
        Map<Integer, String> typed = new HashMap<>();
        private Boolean[] shown;
        private Boolean[] defaultShown;

        Session(Snippet snippet, int number) {
            this.snippet = snippet;
            this.number = number;
        }

        Session copy() {
            Session other = new Session(snippet, number);
            other.current = current;
            other.typed.putAll(typed);
            return other;
        }

        private void forget() {
            shown = new Boolean[snippet.all.size()];
            defaultShown = new Boolean[snippet.all.size()];
        }

        boolean isShown(Occurrence o) {
            forget();
            return shown(o);
        }

        boolean isDefaultShown(Occurrence o) {
            forget();
            return defaultShown(o);
        }

        private boolean shown(Occurrence o) {
            if (shown[o.number] == null) {
                shown[o.number] = o.parent == null || defaultShown(o.parent);
            }
            return shown[o.number];
        }

        private boolean defaultShown(Occurrence o) {
            if (defaultShown[o.number] == null) {
                boolean answer = o.body != null && shown(o) && !typed.containsKey(o.field);
                for (Occurrence other : snippet.all) {
                    if (other.number < o.number && other.field == o.field) {
                        answer &= !defaultShown(other);
                    }
                }
                defaultShown[o.number] = answer;
            }
            return defaultShown[o.number];
        }

        Occurrence shownDefault(int field) {
            forget();
            for (Occurrence o : snippet.all) {
                if (o.field == field && defaultShown(o)) {
                    return o;
                }
            }
            return null;
        }

        TreeSet<Integer> live() {
            forget();
            TreeSet<Integer> live = new TreeSet<>();
            for (Occurrence o : snippet.all) {
                if (shown(o)) {
                    live.add(o.field);
                }
            }
            return live;
        }

        List<Integer> order(boolean byPlaces) {
            forget();
            List<Integer> order = new ArrayList<>();
            if (byPlaces) {
                for (Occurrence o : snippet.all) {
                    if (shown(o) && !order.contains(o.field)) {
                        order.add(o.field);
                    }
                }
            } else {
                order.addAll(live());
            }
            if (order.remove((Integer) 0)) {
                order.add(0);
            }
            return order;
        }

        String value(int field) {
            return value(field, new HashMap<>());
        }

        /** A value that was told once is known: values of values would take too long, even if all are empty. */
        private String value(int field, Map<Integer, String> known) {
            if (!known.containsKey(field)) {
                known.put(field, newValue(field, known));
            }
            return known.get(field);
        }

        private String newValue(int field, Map<Integer, String> known) {
            if (typed.containsKey(field)) {
                return typed.get(field);
            }
            Occurrence o = shownDefault(field);
            return o == null ? "" : tell(o.body, known);
        }

        private String tell(List<Node> body, Map<Integer, String> known) {
            StringBuilder told = new StringBuilder();
            for (Node node : body) {
                if (node.occurrence == null) {
                    told.append(node.literal);
                } else {
                    told.append(changed(node.occurrence, known));
                }
            }
            return told.toString();
        }

        String changed(Occurrence o) {
            return changed(o, new HashMap<>());
        }

        private String changed(Occurrence o, Map<Integer, String> known) {
            String value = value(o.field, known);
            StringBuilder changed = new StringBuilder();
            switch (o.change) {
                case 1:
                case 2:
                    for (char c : value.toCharArray()) {
                        boolean isUpper = c >= 'A' && c <= 'Z';
                        boolean isLower = c >= 'a' && c <= 'z';
                        changed.append((char) (o.change == 1 && isLower ? c - 32 : o.change == 2 && isUpper ? c + 32 : c));
                    }
                    return changed.toString();
                case 3:
                    return changed.append(value).reverse().toString();
                case 4:
                    return value.isEmpty() ? "" : value.substring(0, 1);
                case 5:
                    return String.valueOf(value.length());
                default:
                    return value;
            }
        }

        String text() {
            return tell(snippet.body, new HashMap<>());
        }

        /** The length of the TEXT, also where the text itself would be too long to be made. */
        long length() {
            forget();
            return lengthOf(snippet.body, new HashMap<>());
        }

        private long lengthOf(List<Node> body, Map<Integer, Long> known) {
            long length = 0;
            for (Node node : body) {
                if (node.occurrence == null) {
                    length++;
                    continue;
                }
                long value = lengthOfValue(node.occurrence.field, known);
                if (node.occurrence.change == 4) {
                    length += value == 0 ? 0 : 1;
                } else {
                    length += node.occurrence.change == 5 ? String.valueOf(value).length() : value;
                }
            }
            return length;
        }

        private long lengthOfValue(int field, Map<Integer, Long> known) {
            if (!known.containsKey(field)) {
                Occurrence o = shownDefault(field);
                if (typed.containsKey(field)) {
                    known.put(field, (long) typed.get(field).length());
                } else {
                    known.put(field, o == null ? 0L : lengthOf(o.body, known));
                }
            }
            return known.get(field);
        }

        /** Where an occurrence begins: ahead of it stands what the text tells up to it. */
        int start(Occurrence wanted) {
            if (!isShown(wanted)) {
                return NONE;
            }
            return ahead(snippet.body, wanted).length();
        }

        private String ahead(List<Node> body, Occurrence wanted) {
            StringBuilder told = new StringBuilder();
            for (Node node : body) {
                if (node.occurrence == null) {
                    told.append(node.literal);
                    continue;
                }
                if (node.occurrence == wanted) {
                    return told.toString();
                }
                for (Occurrence around = wanted.parent; around != null; around = around.parent) {
                    if (around == node.occurrence) {
                        return told + ahead(node.occurrence.body, wanted);
                    }
                }
                told.append(changed(node.occurrence));
            }
            throw new IllegalStateException("not in this body");
        }
    }

    static final class Kept {
        boolean byPlaces;
        List<Session> sessions = new ArrayList<>();
        String document = "";

        Kept copy() {
            Kept other = new Kept();
            other.byPlaces = byPlaces;
            other.document = document;
            for (Session s : sessions) {
                other.sessions.add(s.copy());
            }
            return other;
        }
    }

    private List<Snippet> library = new ArrayList<>();
    private String buffer = "";
    private Kept now = new Kept();
    private final Deque<Kept> undo = new ArrayDeque<>();
    private final Kept[] saved = new Kept[2];
    private final int[] accounts = new int[10];
    private int code;
    private int position = NONE;

    // ---- texts

    int append(int a, int b, int c, int d, int e) {
        StringBuilder added = new StringBuilder();
        for (int word : new int[] {a, b, c, d, e}) {
            for (char told : new char[] {(char) (word >>> 24), (char) (word >>> 16 & 255), (char) (word >>> 8 & 255), (char) (word & 255)}) {
                if (told != 0) {
                    added.append(told);
                }
            }
        }
        if (buffer.length() + added.length() > 700) {
            throw new IllegalStateException();
        }
        buffer += added;
        return buffer.length();
    }

    int load() {
        Parser parser = new Parser(buffer);
        buffer = "";
        try {
            parser.library();
        } catch (ParseError e) {
            code = e.code;
            position = e.position;
            return NONE;
        }
        code = 0;
        position = NONE;
        library = parser.snippets;
        now = new Kept();
        now.byPlaces = parser.byPlaces;
        undo.clear();
        saved[0] = null;
        saved[1] = null;
        return library.size();
    }

    int errorCode() {
        return code;
    }

    int errorPosition() {
        return position;
    }

    int find() {
        String name = buffer;
        buffer = "";
        for (int i = 0; i < library.size(); i++) {
            if (library.get(i).name.equals(name)) {
                return i;
            }
        }
        return NONE;
    }

    // ---- the library, the document, sessions

    int size(int what) {
        argument(what >= 0 && what <= 5);
        int[] sizes = {library.size(), depth(), now.document.length(), now.byPlaces ? 1 : 0, buffer.length(), undo.size()};
        return sizes[what];
    }

    int snippet(int snippet, int what) {
        index(snippet, library.size());
        argument(what >= 0 && what <= 5);
        Snippet s = library.get(snippet);
        TreeSet<Integer> fields = new TreeSet<>();
        int deepest = 0;
        int defaults = 0;
        int literals = literals(s.body);
        for (Occurrence o : s.all) {
            fields.add(o.field);
            deepest = Math.max(deepest, o.nesting());
            if (o.body != null) {
                defaults++;
                literals += literals(o.body);
            }
        }
        int[] answers = {s.name.length(), s.all.size(), set(fields), deepest, defaults, literals};
        return answers[what];
    }

    private static int literals(List<Node> body) {
        int count = 0;
        for (Node node : body) {
            count += node.occurrence == null ? 1 : 0;
        }
        return count;
    }

    int letter(int snippet, int index) {
        index(snippet, library.size());
        return byteOf(library.get(snippet).name, index);
    }

    int depends(int snippet, int field) {
        index(snippet, library.size());
        index(field, 10);
        return set(library.get(snippet).depends(field));
    }

    int document(int index) {
        index(index, now.document.length());
        return now.document.charAt(index);
    }

    int session(int level, int what) {
        index(level, depth());
        argument(what >= 0 && what <= 4);
        Session s = now.sessions.get(level);
        switch (what) {
            case 0: return s.number;
            case 1: return s.current;
            case 2: return set(new TreeSet<>(s.typed.keySet()));
            case 3: return s.text().length();
            default: return set(s.live());
        }
    }

    int account(int what) {
        argument(what >= 0 && what <= 9);
        return accounts[what];
    }

    // ---- the innermost session

    int field(int field, int what) {
        index(field, 10);
        argument(what >= 0 && what <= 6);
        Session s = innermost();
        int shown = 0;
        int all = 0;
        for (Occurrence o : s.snippet.all) {
            if (o.field == field) {
                all++;
                shown += s.isShown(o) ? 1 : 0;
            }
        }
        switch (what) {
            case 0: return s.live().contains(field) ? 1 : 0;
            case 1: return s.typed.containsKey(field) ? 1 : 0;
            case 2: return shown;
            case 3: return s.shownDefault(field) == null ? NONE : s.shownDefault(field).number;
            case 4: return s.order(now.byPlaces).indexOf(field);
            case 5: return s.value(field).length();
            default: return all;
        }
    }

    int value(int field, int index) {
        index(field, 10);
        return byteOf(innermost().value(field), index);
    }

    int occurrence(int occurrence, int what) {
        Session s = innermost();
        index(occurrence, s.snippet.all.size());
        argument(what >= 0 && what <= 7);
        Occurrence o = s.snippet.all.get(occurrence);
        switch (what) {
            case 0: return o.field;
            case 1: return o.change;
            case 2: return o.body == null ? 0 : 1;
            case 3: return o.parent == null ? NONE : o.parent.number;
            case 4: return s.isShown(o) ? 1 : 0;
            case 5: return s.isDefaultShown(o) ? 1 : 0;
            case 6: return s.changed(o).length();
            default: return s.start(o);
        }
    }

    int text(int index) {
        return byteOf(innermost().text(), index);
    }

    int orderAt(int place) {
        List<Integer> order = innermost().order(now.byPlaces);
        return place >= 0 && place < order.size() ? order.get(place) : NONE;
    }

    int why(int field) {
        index(field, 10);
        Session s = innermost();
        if (s.live().contains(field)) {
            return 0;
        }
        int answer = 1;
        for (Occurrence o : s.snippet.all) {
            if (o.field == field && answer == 1) {
                answer = 4;
            }
        }
        for (Occurrence o : s.snippet.all) {
            if (o.field == field && o.parent != null && s.isShown(o.parent)) {
                int reason = s.typed.containsKey(o.parent.field) ? 2 : 3;
                answer = Math.min(answer, reason);
            }
        }
        return answer;
    }

    int yielded() {
        Session s = innermost();
        int count = 0;
        for (Occurrence o : s.snippet.all) {
            count += s.isShown(o) && o.body != null && !s.isDefaultShown(o) ? 1 : 0;
        }
        return count;
    }

    int mirrored() {
        innermost();
        int count = 0;
        for (int f = 0; f < 10; f++) {
            count += field(f, 2) > 1 ? 1 : 0;
        }
        return count;
    }

    int longest() {
        Session s = innermost();
        int best = NONE;
        for (int f : s.live()) {
            if (best == NONE || s.value(f).length() > s.value(best).length()) {
                best = f;
            }
        }
        return best;
    }

    float untouched() {
        Session s = innermost();
        TreeSet<Integer> open = s.live();
        int all = open.size();
        open.removeAll(s.typed.keySet());
        return (float) open.size() / (float) all;
    }

    double meanLength() {
        Session s = innermost();
        int sum = 0;
        for (int f : s.live()) {
            sum += s.value(f).length();
        }
        return (double) sum / (double) s.live().size();
    }

    // ---- what would be

    int lengthIf(int bytes) {
        argument(bytes >= 1 && bytes <= 20);
        Session s = innermost().copy();
        String typed = s.typed.getOrDefault(s.current, "") + "x".repeat(bytes);
        s.typed.put(s.current, typed);
        return typed.length() > 40 || s.length() > 400 ? NONE : (int) s.length();
    }

    int wouldHide(int field) {
        index(field, 10);
        Session s = innermost();
        if (s.typed.containsKey(field)) {
            return 0;
        }
        Session then = s.copy();
        then.typed.put(field, "");
        TreeSet<Integer> hidden = s.live();
        hidden.removeAll(then.live());
        hidden.remove(field);
        return set(hidden);
    }

    int lengthOf(int snippet) {
        index(snippet, library.size());
        return (int) Math.min(100000, new Session(library.get(snippet), snippet).length());
    }

    // ---- acts

    int expand(int snippet) {
        index(snippet, library.size());
        if (depth() == 4) {
            return refused(2);
        }
        Session s = new Session(library.get(snippet), snippet);
        if (s.length() > 400) {
            return refused(3);
        }
        if (s.live().isEmpty()) {
            int reason = endReason(depth(), s.text());
            if (reason != 0) {
                return refused(reason);
            }
            done();
            pour(s.text());
            return depth();
        }
        done();
        s.current = s.order(now.byPlaces).get(0);
        now.sessions.add(s);
        return depth();
    }

    int type(int bytes) {
        argument(bytes >= 1 && bytes <= 20);
        if (buffer.length() < bytes) {
            throw new NoSuchElementException();
        }
        String told = buffer.substring(0, bytes);
        buffer = "";
        if (depth() == 0) {
            return refused(1);
        }
        return retype(innermost().typed.getOrDefault(innermost().current, "") + told);
    }

    int erase() {
        if (depth() == 0) {
            return refused(1);
        }
        String value = innermost().value(innermost().current);
        if (value.isEmpty()) {
            return refused(5);
        }
        return retype(value.substring(0, value.length() - 1));
    }

    private int retype(String typed) {
        Session then = innermost().copy();
        then.typed.put(then.current, typed);
        if (typed.length() > 40) {
            return refused(4);
        }
        if (then.length() > 400) {
            return refused(3);
        }
        done();
        innermost().typed.put(then.current, typed);
        return typed.length();
    }

    int reset() {
        if (depth() == 0) {
            return refused(1);
        }
        Session then = innermost().copy();
        if (then.typed.remove(then.current) == null) {
            return refused(6);
        }
        if (then.length() > 400) {
            return refused(3);
        }
        done();
        innermost().typed.remove(then.current);
        return innermost().value(then.current).length();
    }

    int next() {
        if (depth() == 0) {
            return refused(1);
        }
        List<Integer> order = innermost().order(now.byPlaces);
        int place = order.indexOf(innermost().current);
        if (place + 1 < order.size()) {
            done();
            innermost().current = order.get(place + 1);
            return innermost().current;
        }
        int answer = finish();
        return answer < 0 ? answer : answer == 0 ? 10 : innermost().current;
    }

    int previous() {
        if (depth() == 0) {
            return refused(1);
        }
        List<Integer> order = innermost().order(now.byPlaces);
        int place = order.indexOf(innermost().current);
        if (place == 0) {
            return refused(7);
        }
        done();
        innermost().current = order.get(place - 1);
        return innermost().current;
    }

    int go(int field) {
        index(field, 10);
        if (depth() == 0) {
            return refused(1);
        }
        if (!innermost().live().contains(field)) {
            return refused(8);
        }
        int before = innermost().current;
        done();
        innermost().current = field;
        return before;
    }

    int finish() {
        if (depth() == 0) {
            return refused(1);
        }
        String text = innermost().text();
        int reason = endReason(depth() - 1, text);
        if (reason != 0) {
            return refused(reason);
        }
        done();
        now.sessions.remove(depth() - 1);
        pour(text);
        return depth();
    }

    int drop() {
        if (depth() == 0) {
            return refused(1);
        }
        done();
        now.sessions.remove(depth() - 1);
        return depth();
    }

    int setOrder(boolean isByPlaces) {
        int before = now.byPlaces ? 1 : 0;
        done();
        now.byPlaces = isByPlaces;
        return before;
    }

    // ---- undo, saved states

    int undo() {
        if (undo.isEmpty()) {
            throw new IllegalStateException();
        }
        now = undo.removeLast();
        return undo.size();
    }

    int save(int slot) {
        index(slot, 2);
        saved[slot] = now.copy();
        return depth();
    }

    int restore(int slot) {
        index(slot, 2);
        if (saved[slot] == null) {
            throw new IllegalStateException();
        }
        now = saved[slot].copy();
        undo.clear();
        return depth();
    }

    // ---- what several calls need

    private int depth() {
        return now.sessions.size();
    }

    private Session innermost() {
        if (now.sessions.isEmpty()) {
            throw new IllegalStateException();
        }
        return now.sessions.get(depth() - 1);
    }

    /** The reason for which a text can't leave a session of this level. */
    private int endReason(int level, String text) {
        if (level == 0) {
            return now.document.length() + text.length() > 600 ? 9 : 0;
        }
        Session outside = now.sessions.get(level - 1).copy();
        String typed = outside.typed.getOrDefault(outside.current, "") + text;
        outside.typed.put(outside.current, typed);
        if (typed.length() > 40) {
            return 4;
        }
        return outside.length() > 400 ? 3 : 0;
    }

    /** Brings a text where the innermost session stands now, or to the document. */
    private void pour(String text) {
        if (depth() == 0) {
            now.document += text;
        } else {
            Session s = innermost();
            s.typed.put(s.current, s.typed.getOrDefault(s.current, "") + text);
        }
    }

    private int refused(int reason) {
        accounts[reason]++;
        return -reason;
    }

    private void done() {
        accounts[0]++;
        undo.addLast(now.copy());
        if (undo.size() > 8) {
            undo.removeFirst();
        }
    }

    private static int set(TreeSet<Integer> members) {
        int sum = 0;
        for (int member : members) {
            sum += 1 << member;
        }
        return sum;
    }

    private static int byteOf(String text, int index) {
        return index >= 0 && index < text.length() ? text.charAt(index) : NONE;
    }

    private static void index(int index, int end) {
        if (index < 0 || index >= end) {
            throw new IndexOutOfBoundsException();
        }
    }

    private static void argument(boolean isGood) {
        if (!isGood) {
            throw new IllegalArgumentException();
        }
    }
}
