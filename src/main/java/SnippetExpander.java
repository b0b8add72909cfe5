import java.util.NoSuchElementException;

/** Snippets with mirrored fields, filled in session by session into one document; see README.md. */
public final class SnippetExpander {
    public static final int NONE = -1;

    private static final int MAX_SNIPPETS = 8;
    private static final int MAX_LETTERS = 8;
    private static final int MAX_OCCURRENCES = 60;
    private static final int MAX_NESTING = 4;
    private static final int MAX_SESSIONS = 4;
    private static final int MAX_BUFFER = 700;
    private static final int MAX_TEXT = 400;
    private static final int MAX_TYPED = 40;
    private static final int MAX_AT_ONCE = 20;
    private static final int MAX_DOCUMENT = 600;
    private static final int MAX_UNDO = 8;
    private static final int SLOTS = 2;
    private static final int FIELDS = 10;
    private static final int LENGTH_CAP = 100000;
    private static final int NO_FIELD_LEFT = 10;

    private static final int UPPER = 1;
    private static final int LOWER = 2;
    private static final int REVERSED = 3;
    private static final int FIRST = 4;
    private static final int NUMBER = 5;

    private static final int WRONG_TOKEN = 1;
    private static final int TOO_NESTED = 2;
    private static final int SAME_NAME = 3;
    private static final int DEPENDS_ON_ITSELF = 4;
    private static final int TOO_MANY = 5;

    private static final int NO_SESSION = 1;
    private static final int FOUR_SESSIONS = 2;
    private static final int TEXT_TOO_LONG = 3;
    private static final int TYPED_TOO_LONG = 4;
    private static final int VALUE_EMPTY = 5;
    private static final int NOT_TYPED = 6;
    private static final int NO_FIELD_AHEAD = 7;
    private static final int NOT_LIVE = 8;
    private static final int DOCUMENT_TOO_LONG = 9;
    private static final int REASONS = 9;

    private final int[] buffer = new int[MAX_BUFFER];
    private int bufferLength;
    private Library library;
    private final LibraryReader reader;
    private int latestErrorCode;
    private int latestErrorPosition;
    private final int[] accounts = new int[REASONS + 1];
    private final State state;
    private final State[] undoStates = new State[MAX_UNDO];
    private int undoNext;
    private int undoCount;
    private final State[] savedStates = new State[SLOTS];
    private final boolean[] isSaved = new boolean[SLOTS];
    private final View view;

    public SnippetExpander() {
        library = new Library();
        reader = new LibraryReader();
        state = new State();
        view = new View();
        for (int i = 0; i < MAX_UNDO; i++) {
            undoStates[i] = new State();
        }
        for (int i = 0; i < SLOTS; i++) {
            savedStates[i] = new State();
        }
        latestErrorPosition = NONE;
    }

    // ---- texts

    public int append(int a, int b, int c, int d, int e) throws IllegalStateException {
        int added = countBytes(a) + countBytes(b) + countBytes(c) + countBytes(d) + countBytes(e);
        if (bufferLength + added > MAX_BUFFER) {
            throw new IllegalStateException("the buffer would be longer than 700 bytes");
        }
        bufferBytes(a);
        bufferBytes(b);
        bufferBytes(c);
        bufferBytes(d);
        bufferBytes(e);
        return bufferLength;
    }

    public int load() {
        reader.readLibrary(buffer, bufferLength);
        bufferLength = 0;
        latestErrorCode = reader.errorCode;
        latestErrorPosition = reader.errorPosition;
        if (latestErrorCode != 0) {
            return NONE;
        }
        library = reader.exchange(library);
        state.clear(library.isByPlaces);
        undoCount = 0;
        for (int i = 0; i < SLOTS; i++) {
            isSaved[i] = false;
        }
        return library.count;
    }

    public int errorCode() {
        return latestErrorCode;
    }

    public int errorPosition() {
        return latestErrorPosition;
    }

    public int find() {
        int found = library.indexOf(buffer, 0, bufferLength);
        bufferLength = 0;
        return found;
    }

    // ---- the library, the document, sessions

    public int size(int what) throws IllegalArgumentException {
        switch (what) {
            case 0: return library.count;
            case 1: return state.depth;
            case 2: return state.documentLength;
            case 3: return state.isByPlaces ? 1 : 0;
            case 4: return bufferLength;
            case 5: return undoCount;
            default: throw new IllegalArgumentException("what is out of range");
        }
    }

    public int snippet(int snippet, int what) throws IndexOutOfBoundsException, IllegalArgumentException {
        Snippet told = requireSnippet(snippet);
        switch (what) {
            case 0: return told.nameLength;
            case 1: return told.occurrences;
            case 2: return told.fieldSet;
            case 3: return told.deepest();
            case 4: return told.countDefaults();
            case 5: return told.countLiterals();
            default: throw new IllegalArgumentException("what is out of range");
        }
    }

    public int letter(int snippet, int index) throws IndexOutOfBoundsException {
        Snippet told = requireSnippet(snippet);
        return index >= 0 && index < told.nameLength ? told.name[index] : NONE;
    }

    public int depends(int snippet, int field) throws IndexOutOfBoundsException {
        Snippet told = requireSnippet(snippet);
        requireField(field);
        return told.dependsOn[field];
    }

    public int document(int index) throws IndexOutOfBoundsException {
        if (index < 0 || index >= state.documentLength) {
            throw new IndexOutOfBoundsException("there is no such byte");
        }
        return state.document[index];
    }

    public int session(int level, int what) throws IndexOutOfBoundsException, IllegalArgumentException {
        if (level < 0 || level >= state.depth) {
            throw new IndexOutOfBoundsException("there is no such level");
        }
        switch (what) {
            case 0: return state.snippets[level];
            case 1: return state.currents[level];
            case 2: return state.typedSets[level];
            case 3: return (int) measuredText(level);
            case 4: return liveFields(level);
            default: throw new IllegalArgumentException("what is out of range");
        }
    }

    public int account(int what) throws IllegalArgumentException {
        if (what < 0 || what > REASONS) {
            throw new IllegalArgumentException("what is out of range");
        }
        return accounts[what];
    }

    // ---- the innermost session

    public int field(int field, int what)
            throws IndexOutOfBoundsException, IllegalArgumentException, IllegalStateException {
        requireField(field);
        if (what < 0 || what > 6) {
            throw new IllegalArgumentException("what is out of range");
        }
        lookAtInnermost();
        switch (what) {
            case 0: return view.isLive(field) ? 1 : 0;
            case 1: return view.isTyped(field) ? 1 : 0;
            case 2: return view.shownCounts[field];
            case 3: return view.shownDefaults[field];
            case 4: return view.placeOf(field);
            case 5: return (int) view.valueLengths[field];
            default: return view.snippet.countOf(field);
        }
    }

    public int value(int field, int index) throws IndexOutOfBoundsException, IllegalStateException {
        requireField(field);
        lookAtInnermost();
        view.renderValues();
        return view.valueByte(field, index);
    }

    public int occurrence(int occurrence, int what)
            throws IllegalStateException, IndexOutOfBoundsException, IllegalArgumentException {
        lookAtInnermost();
        Snippet told = view.snippet;
        if (occurrence < 0 || occurrence >= told.occurrences) {
            throw new IndexOutOfBoundsException("there is no such occurrence");
        }
        switch (what) {
            case 0: return told.fields[occurrence];
            case 1: return told.changes[occurrence];
            case 2: return told.hasDefault[occurrence] ? 1 : 0;
            case 3: return told.parents[occurrence];
            case 4: return view.isShown[occurrence] ? 1 : 0;
            case 5: return view.isDefaultShown(occurrence) ? 1 : 0;
            case 6: return (int) view.changedLength(occurrence);
            case 7: return view.startOf(occurrence);
            default: throw new IllegalArgumentException("what is out of range");
        }
    }

    public int text(int index) throws IllegalStateException {
        lookAtInnermost();
        if (index < 0 || index >= view.textLength) {
            return NONE;
        }
        view.renderText();
        return view.text[index];
    }

    public int orderAt(int place) throws IllegalStateException {
        lookAtInnermost();
        return place >= 0 && place < view.orderLength ? view.order[place] : NONE;
    }

    public int why(int field) throws IndexOutOfBoundsException, IllegalStateException {
        requireField(field);
        lookAtInnermost();
        return view.reasonNotLive(field);
    }

    public int yielded() throws IllegalStateException {
        lookAtInnermost();
        return view.countYielded();
    }

    public int mirrored() throws IllegalStateException {
        lookAtInnermost();
        return view.countMirrored();
    }

    public int longest() throws IllegalStateException {
        lookAtInnermost();
        return view.fieldOfLongestValue();
    }

    public float untouched() throws IllegalStateException {
        lookAtInnermost();
        int all = Integer.bitCount(view.live);
        int notTyped = Integer.bitCount(view.live & ~view.typedSet);
        return all == 0 ? 0.0f : (float) notTyped / (float) all;
    }

    public double meanLength() throws IllegalStateException {
        lookAtInnermost();
        int all = Integer.bitCount(view.live);
        return all == 0 ? 0.0 : (double) view.lengthOfLiveValues() / (double) all;
    }

    // ---- what would be: nothing changes

    public int lengthIf(int bytes) throws IllegalArgumentException, IllegalStateException {
        requireBytesAtOnce(bytes);
        int level = requireSession();
        int field = state.currents[level];
        int typedLength = state.typedLength(level, field) + bytes;
        if (typedLength > MAX_TYPED) {
            return NONE;
        }
        long textLength = textIfTyped(level, field, typedLength);
        return textLength > MAX_TEXT ? NONE : (int) textLength;
    }

    public int wouldHide(int field) throws IndexOutOfBoundsException, IllegalStateException {
        requireField(field);
        lookAtInnermost();
        if (view.isTyped(field)) {
            return 0;
        }
        int liveNow = view.live;
        view.supposeTyped(field, 0);
        view.measure();
        return liveNow & ~view.live;
    }

    public int lengthOf(int snippet) throws IndexOutOfBoundsException {
        view.takeUntouched(requireSnippet(snippet));
        view.measure();
        return (int) Math.min(view.textLength, LENGTH_CAP);
    }

    // ---- acts: a number as told, or minus the reason

    public int expand(int snippet) throws IndexOutOfBoundsException {
        Snippet expanded = requireSnippet(snippet);
        if (state.depth >= MAX_SESSIONS) {
            return refuse(FOUR_SESSIONS);
        }
        view.takeUntouched(expanded);
        view.measure();
        if (view.textLength > MAX_TEXT) {
            return refuse(TEXT_TOO_LONG);
        }
        boolean isEndedAtOnce = view.live == 0;
        if (isEndedAtOnce) {
            int reason = reasonNotToEnd(state.depth, view.textLength);
            if (reason != 0) {
                return refuse(reason);
            }
        }
        view.arrangeOrder(state.isByPlaces);
        int current = view.order[0];
        keepForUndo();
        state.push(snippet, current);
        if (isEndedAtOnce) {
            endSession();
        }
        return state.depth;
    }

    public int type(int bytes) throws IllegalArgumentException, NoSuchElementException {
        requireBytesAtOnce(bytes);
        if (bufferLength < bytes) {
            throw new NoSuchElementException("the buffer has fewer bytes");
        }
        int answer = typeFromBuffer(bytes);
        bufferLength = 0;
        return answer;
    }

    public int erase() {
        if (state.depth == 0) {
            return refuse(NO_SESSION);
        }
        int level = state.depth - 1;
        int field = state.currents[level];
        lookAt(level);
        int rest = (int) view.valueLengths[field] - 1;
        if (rest < 0) {
            return refuse(VALUE_EMPTY);
        }
        if (rest > MAX_TYPED) {
            return refuse(TYPED_TOO_LONG);
        }
        if (textIfTyped(level, field, rest) > MAX_TEXT) {
            return refuse(TEXT_TOO_LONG);
        }
        keepForUndo();
        lookAt(level);
        view.renderValues();
        state.makeNotTyped(level, field);
        state.typeBehind(level, field, view.values, field * MAX_TEXT, rest);
        return rest;
    }

    public int reset() {
        if (state.depth == 0) {
            return refuse(NO_SESSION);
        }
        int level = state.depth - 1;
        int field = state.currents[level];
        if (!state.isTyped(level, field)) {
            return refuse(NOT_TYPED);
        }
        takeSession(level);
        view.supposeNotTyped(field);
        view.measure();
        if (view.textLength > MAX_TEXT) {
            return refuse(TEXT_TOO_LONG);
        }
        keepForUndo();
        state.makeNotTyped(level, field);
        return (int) view.valueLengths[field];
    }

    public int next() {
        if (state.depth == 0) {
            return refuse(NO_SESSION);
        }
        int level = state.depth - 1;
        lookAt(level);
        int place = view.placeOf(state.currents[level]) + 1;
        if (place < view.orderLength) {
            keepForUndo();
            state.currents[level] = view.order[place];
            return state.currents[level];
        }
        int reason = reasonNotToEnd(level, view.textLength);
        if (reason != 0) {
            return refuse(reason);
        }
        keepForUndo();
        endSession();
        return state.depth == 0 ? NO_FIELD_LEFT : state.currents[state.depth - 1];
    }

    public int previous() {
        if (state.depth == 0) {
            return refuse(NO_SESSION);
        }
        int level = state.depth - 1;
        lookAt(level);
        int place = view.placeOf(state.currents[level]) - 1;
        if (place < 0) {
            return refuse(NO_FIELD_AHEAD);
        }
        keepForUndo();
        state.currents[level] = view.order[place];
        return state.currents[level];
    }

    public int go(int field) throws IndexOutOfBoundsException {
        requireField(field);
        if (state.depth == 0) {
            return refuse(NO_SESSION);
        }
        int level = state.depth - 1;
        lookAt(level);
        if (!view.isLive(field)) {
            return refuse(NOT_LIVE);
        }
        int left = state.currents[level];
        keepForUndo();
        state.currents[level] = field;
        return left;
    }

    public int finish() {
        if (state.depth == 0) {
            return refuse(NO_SESSION);
        }
        int level = state.depth - 1;
        int reason = reasonNotToEnd(level, measuredText(level));
        if (reason != 0) {
            return refuse(reason);
        }
        keepForUndo();
        endSession();
        return state.depth;
    }

    public int drop() {
        if (state.depth == 0) {
            return refuse(NO_SESSION);
        }
        keepForUndo();
        state.depth--;
        return state.depth;
    }

    public int setOrder(boolean isByPlaces) {
        int before = state.isByPlaces ? 1 : 0;
        keepForUndo();
        state.isByPlaces = isByPlaces;
        return before;
    }

    // ---- undo, saved states

    public int undo() throws IllegalStateException {
        if (undoCount == 0) {
            throw new IllegalStateException("there is no act to undo");
        }
        undoNext = (undoNext + MAX_UNDO - 1) % MAX_UNDO;
        undoCount--;
        state.copyFrom(undoStates[undoNext]);
        return undoCount;
    }

    public int save(int slot) throws IndexOutOfBoundsException {
        requireSlot(slot);
        savedStates[slot].copyFrom(state);
        isSaved[slot] = true;
        return state.depth;
    }

    public int restore(int slot) throws IndexOutOfBoundsException, IllegalStateException {
        requireSlot(slot);
        if (!isSaved[slot]) {
            throw new IllegalStateException("nothing is saved there");
        }
        state.copyFrom(savedStates[slot]);
        undoCount = 0;
        return state.depth;
    }

    // ---- what several calls need

    private static int countBytes(int word) {
        int count = 0;
        for (int shift = 24; shift >= 0; shift -= 8) {
            if ((word >>> shift & 255) != 0) {
                count++;
            }
        }
        return count;
    }

    private void bufferBytes(int word) {
        for (int shift = 24; shift >= 0; shift -= 8) {
            int told = word >>> shift & 255;
            if (told != 0 && bufferLength < MAX_BUFFER) {
                buffer[bufferLength] = told;
                bufferLength++;
            }
        }
    }

    private Snippet requireSnippet(int snippet) {
        if (snippet < 0 || snippet >= library.count) {
            throw new IndexOutOfBoundsException("there is no such snippet");
        }
        return library.snippets[snippet];
    }

    private static void requireField(int field) {
        if (field < 0 || field >= FIELDS) {
            throw new IndexOutOfBoundsException("there is no such field");
        }
    }

    private static void requireBytesAtOnce(int bytes) {
        if (bytes < 1 || bytes > MAX_AT_ONCE) {
            throw new IllegalArgumentException("bytes is out of range");
        }
    }

    private static void requireSlot(int slot) {
        if (slot < 0 || slot >= SLOTS) {
            throw new IndexOutOfBoundsException("there is no such saved state");
        }
    }

    private int requireSession() {
        if (state.depth == 0) {
            throw new IllegalStateException("there is no session");
        }
        return state.depth - 1;
    }

    private int refuse(int reason) {
        accounts[reason]++;
        return -reason;
    }

    private void keepForUndo() {
        accounts[0]++;
        undoStates[undoNext].copyFrom(state);
        undoNext = (undoNext + 1) % MAX_UNDO;
        undoCount = Math.min(undoCount + 1, MAX_UNDO);
    }

    private void takeSession(int level) {
        view.take(library.snippets[state.snippets[level]], state, level);
    }

    private void lookAt(int level) {
        takeSession(level);
        view.measure();
        view.arrangeOrder(state.isByPlaces);
    }

    private void lookAtInnermost() {
        lookAt(requireSession());
    }

    private long measuredText(int level) {
        takeSession(level);
        view.measure();
        return view.textLength;
    }

    private int liveFields(int level) {
        takeSession(level);
        view.measure();
        return view.live;
    }

    private long textIfTyped(int level, int field, int typedLength) {
        takeSession(level);
        view.supposeTyped(field, typedLength);
        view.measure();
        return view.textLength;
    }

    private int typeFromBuffer(int bytes) {
        if (state.depth == 0) {
            return refuse(NO_SESSION);
        }
        int level = state.depth - 1;
        int field = state.currents[level];
        int typedLength = state.typedLength(level, field) + bytes;
        if (typedLength > MAX_TYPED) {
            return refuse(TYPED_TOO_LONG);
        }
        if (textIfTyped(level, field, typedLength) > MAX_TEXT) {
            return refuse(TEXT_TOO_LONG);
        }
        keepForUndo();
        state.typeBehind(level, field, buffer, 0, bytes);
        return typedLength;
    }

    /** The reason why a session at this level with a TEXT of this length can't end, or 0. */
    private int reasonNotToEnd(int level, long textLength) {
        if (level == 0) {
            return state.documentLength + textLength > MAX_DOCUMENT ? DOCUMENT_TOO_LONG : 0;
        }
        int outside = level - 1;
        int field = state.currents[outside];
        long typedLength = state.typedLength(outside, field) + textLength;
        if (typedLength > MAX_TYPED) {
            return TYPED_TOO_LONG;
        }
        return textIfTyped(outside, field, (int) typedLength) > MAX_TEXT ? TEXT_TOO_LONG : 0;
    }

    private void endSession() {
        int level = state.depth - 1;
        int length = (int) measuredText(level);
        view.renderText();
        if (level == 0) {
            state.appendToDocument(view.text, length);
        } else {
            state.typeBehind(level - 1, state.currents[level - 1], view.text, 0, length);
        }
        state.depth = level;
    }

    /** A snippet of the library; its body lies in rows that all snippets of the library share. */
    private static final class Snippet {
        final int[] name = new int[MAX_LETTERS];
        int nameLength;
        int occurrences;
        int fieldSet;
        final int[] fields = new int[MAX_OCCURRENCES];
        final int[] changes = new int[MAX_OCCURRENCES];
        final boolean[] hasDefault = new boolean[MAX_OCCURRENCES];
        final int[] parents = new int[MAX_OCCURRENCES];
        final int[] nestings = new int[MAX_OCCURRENCES];
        final int[] dependsOn = new int[FIELDS];
        // A part is the body (NONE) or the default of an occurrence (its number).
        final int[] literalsOfParts = new int[MAX_OCCURRENCES + 1];
        // A byte of the body, or minus the number of an occurrence less 1.
        final int[] items;
        final int[] partOfItem;
        final int[] itemOfOccurrence = new int[MAX_OCCURRENCES];
        final int[] endOfDefault = new int[MAX_OCCURRENCES];
        int firstItem;
        int endItem;

        Snippet(int[] items, int[] partOfItem) {
            this.items = items;
            this.partOfItem = partOfItem;
        }

        void clear(int first) {
            occurrences = 0;
            fieldSet = 0;
            firstItem = first;
            endItem = first;
            for (int field = 0; field < FIELDS; field++) {
                dependsOn[field] = 0;
            }
            for (int part = 0; part <= MAX_OCCURRENCES; part++) {
                literalsOfParts[part] = 0;
            }
        }

        void setName(int[] from, int start, int length) {
            nameLength = Math.min(length, MAX_LETTERS);
            for (int i = 0; i < nameLength; i++) {
                name[i] = from[start + i];
            }
        }

        boolean isNamed(int[] from, int start, int length) {
            if (length != nameLength) {
                return false;
            }
            for (int i = 0; i < nameLength; i++) {
                if (name[i] != from[start + i]) {
                    return false;
                }
            }
            return true;
        }

        void addLiteral(int told, int part) {
            if (endItem < items.length) {
                items[endItem] = told;
                partOfItem[endItem] = part;
                endItem++;
                literalsOfParts[part + 1]++;
            }
        }

        /** Returns the number of the new occurrence. */
        int addOccurrence(int field, int part) {
            int added = occurrences;
            if (added >= MAX_OCCURRENCES || endItem >= items.length) {
                return NONE;
            }
            fields[added] = field;
            changes[added] = 0;
            hasDefault[added] = false;
            parents[added] = part;
            nestings[added] = part == NONE ? 0 : nestings[part] + 1;
            items[endItem] = -added - 1;
            partOfItem[endItem] = part;
            itemOfOccurrence[added] = endItem;
            endItem++;
            occurrences++;
            fieldSet |= 1 << field;
            return added;
        }

        void addDependence(int owner, int field) {
            int gained = dependsOn[field] | 1 << field;
            for (int other = 0; other < FIELDS; other++) {
                if (other == owner || (dependsOn[other] >> owner & 1) != 0) {
                    dependsOn[other] |= gained;
                }
            }
        }

        boolean wouldDependOnItself(int field, int part) {
            if (part == NONE) {
                return false;
            }
            int owner = fields[part];
            return field == owner || (dependsOn[field] >> owner & 1) != 0;
        }

        int firstItemOf(int part) {
            return part == NONE ? firstItem : itemOfOccurrence[part] + 1;
        }

        int endItemOf(int part) {
            return part == NONE ? endItem : endOfDefault[part];
        }

        int deepest() {
            int most = 0;
            for (int i = 0; i < occurrences; i++) {
                most = Math.max(most, nestings[i]);
            }
            return most;
        }

        int countDefaults() {
            int count = 0;
            for (int i = 0; i < occurrences; i++) {
                if (hasDefault[i]) {
                    count++;
                }
            }
            return count;
        }

        int countLiterals() {
            return endItem - firstItem - occurrences;
        }

        int countOf(int field) {
            int count = 0;
            for (int i = 0; i < occurrences; i++) {
                if (fields[i] == field) {
                    count++;
                }
            }
            return count;
        }
    }

    private static final class Library {
        final Snippet[] snippets = new Snippet[MAX_SNIPPETS];
        int count;
        boolean isByPlaces;

        Library() {
            // Each item comes from a byte of the text at least, so all snippets fit in one row.
            int[] items = new int[MAX_BUFFER];
            int[] partOfItem = new int[MAX_BUFFER];
            for (int i = 0; i < MAX_SNIPPETS; i++) {
                snippets[i] = new Snippet(items, partOfItem);
            }
        }

        int indexOf(int[] from, int start, int length) {
            for (int i = 0; i < count; i++) {
                if (snippets[i].isNamed(from, start, length)) {
                    return i;
                }
            }
            return NONE;
        }
    }

    /** Reads a library text up to the first token that is wrong. */
    private static final class LibraryReader {
        private int[] text = new int[0];
        private int length;
        private int at;
        private Library into;
        private Snippet snippet;
        private int openPart;
        int errorCode;
        int errorPosition;

        LibraryReader() {
            into = new Library();
            snippet = into.snippets[0];
        }

        /** Gives what was read last for a library whose rows may be written over. */
        Library exchange(Library old) {
            Library read = into;
            into = old;
            return read;
        }

        void readLibrary(int[] from, int fromLength) {
            text = from;
            length = Math.min(fromLength, from.length);
            into.count = 0;
            into.isByPlaces = false;
            at = 0;
            errorCode = 0;
            errorPosition = NONE;
            skipBlanks();
            for (int turn = 0; turn < length && at < length && errorCode == 0; turn++) {
                int end = endOfWord();
                if (isWord(end, "snippet")) {
                    readHead(end);
                    if (errorCode == 0) {
                        readBody();
                        into.count++;
                    }
                } else if (isWord(end, "order")) {
                    readOrder(end);
                } else {
                    fail(WRONG_TOKEN, at);
                }
                skipBlanks();
            }
        }

        private void fail(int code, int position) {
            errorCode = code;
            errorPosition = position;
        }

        private boolean isAt(int told) {
            return at < length && text[at] == told;
        }

        private void skipBlanks() {
            for (int i = at; i < length && (text[i] == ' ' || text[i] == '\n'); i++) {
                at = i + 1;
            }
        }

        private int endOfWord() {
            int end = at;
            for (int i = at; i < length && text[i] >= 'a' && text[i] <= 'z'; i++) {
                end = i + 1;
            }
            return end;
        }

        private boolean isWord(int end, String word) {
            if (end - at != word.length()) {
                return false;
            }
            for (int i = 0; i < word.length(); i++) {
                if (text[at + i] != word.charAt(i)) {
                    return false;
                }
            }
            return true;
        }

        private void readOrder(int endOfOrder) {
            at = endOfOrder;
            skipBlanks();
            int end = endOfWord();
            boolean isByPlaces = isWord(end, "places");
            if (!isByPlaces && !isWord(end, "numbers")) {
                fail(WRONG_TOKEN, at);
                return;
            }
            at = end;
            skipBlanks();
            if (!isAt(';')) {
                fail(WRONG_TOKEN, at);
                return;
            }
            at++;
            into.isByPlaces = isByPlaces;
        }

        /** Reads what stands ahead of a body. */
        private void readHead(int endOfSnippet) {
            if (into.count >= MAX_SNIPPETS) {
                fail(TOO_MANY, at);
                return;
            }
            at = endOfSnippet;
            skipBlanks();
            int nameLength = endOfWord() - at;
            if (nameLength == 0 || nameLength > MAX_LETTERS) {
                fail(WRONG_TOKEN, at);
                return;
            }
            if (into.indexOf(text, at, nameLength) != NONE) {
                fail(SAME_NAME, at);
                return;
            }
            int previous = into.count - 1;
            snippet = into.snippets[into.count];
            snippet.clear(previous < 0 ? 0 : into.snippets[previous].endItem);
            snippet.setName(text, at, nameLength);
            at += nameLength;
            skipBlanks();
            if (!isAt('{')) {
                fail(WRONG_TOKEN, at);
                return;
            }
            at++;
        }

        private void readBody() {
            openPart = NONE;
            boolean isClosed = false;
            // Each turn but the last one takes a byte of the text.
            for (int turn = 0; turn <= length && !isClosed && errorCode == 0; turn++) {
                if (at >= length) {
                    fail(WRONG_TOKEN, length);
                } else if (text[at] == '}') {
                    isClosed = openPart == NONE;
                    closePart();
                } else if (text[at] == '$') {
                    readDollar();
                } else {
                    readLiteral();
                }
            }
        }

        private void closePart() {
            at++;
            if (openPart != NONE) {
                snippet.endOfDefault[openPart] = snippet.endItem;
                openPart = snippet.parents[openPart];
            }
        }

        private void readLiteral() {
            int told = text[at];
            if (told != '\n' && (told < 32 || told > 126)) {
                fail(WRONG_TOKEN, at);
                return;
            }
            snippet.addLiteral(told, openPart);
            at++;
        }

        private void readDollar() {
            int dollar = at;
            at++;
            if (isAt('$') || isAt('}')) {
                snippet.addLiteral(text[at], openPart);
                at++;
                return;
            }
            boolean isBraced = isAt('{');
            if (isBraced) {
                at++;
            }
            if (at >= length || text[at] < '0' || text[at] > '9') {
                fail(WRONG_TOKEN, at);
                return;
            }
            int occurrence = readField(dollar);
            if (isBraced && occurrence != NONE) {
                readBehindField(occurrence, dollar);
            }
        }

        /** Reads the digit; returns the number of the occurrence, NONE if it is not allowed. */
        private int readField(int dollar) {
            int field = text[at] - '0';
            if (snippet.wouldDependOnItself(field, openPart)) {
                fail(DEPENDS_ON_ITSELF, dollar);
                return NONE;
            }
            if (snippet.occurrences >= MAX_OCCURRENCES) {
                fail(TOO_MANY, dollar);
                return NONE;
            }
            at++;
            if (openPart != NONE) {
                snippet.addDependence(snippet.fields[openPart], field);
            }
            return snippet.addOccurrence(field, openPart);
        }

        private void readBehindField(int occurrence, int dollar) {
            if (isAt('}')) {
                at++;
            } else if (isAt('/')) {
                at++;
                readChange(occurrence);
            } else if (isAt(':')) {
                openDefault(occurrence, dollar);
            } else {
                fail(WRONG_TOKEN, at);
            }
        }

        private void readChange(int occurrence) {
            int change = at < length ? changeOf(text[at]) : 0;
            if (change == 0) {
                fail(WRONG_TOKEN, at);
                return;
            }
            at++;
            if (!isAt('}')) {
                fail(WRONG_TOKEN, at);
                return;
            }
            at++;
            snippet.changes[occurrence] = change;
        }

        private static int changeOf(int told) {
            switch (told) {
                case 'u': return UPPER;
                case 'l': return LOWER;
                case 'r': return REVERSED;
                case 'f': return FIRST;
                case 'n': return NUMBER;
                default: return 0;
            }
        }

        private void openDefault(int occurrence, int dollar) {
            if (snippet.nestings[occurrence] >= MAX_NESTING) {
                fail(TOO_NESTED, dollar);
                return;
            }
            at++;
            snippet.hasDefault[occurrence] = true;
            openPart = occurrence;
        }
    }

    /** All that undo() and restore() bring back. */
    private static final class State {
        boolean isByPlaces;
        int depth;
        final int[] snippets = new int[MAX_SESSIONS];
        final int[] currents = new int[MAX_SESSIONS];
        final int[] typedSets = new int[MAX_SESSIONS];
        final int[] typedLengths = new int[MAX_SESSIONS * FIELDS];
        final int[] typedTexts = new int[MAX_SESSIONS * FIELDS * MAX_TYPED];
        final int[] document = new int[MAX_DOCUMENT];
        int documentLength;

        void clear(boolean byPlaces) {
            isByPlaces = byPlaces;
            depth = 0;
            documentLength = 0;
        }

        void copyFrom(State other) {
            isByPlaces = other.isByPlaces;
            depth = other.depth;
            documentLength = other.documentLength;
            System.arraycopy(other.snippets, 0, snippets, 0, depth);
            System.arraycopy(other.currents, 0, currents, 0, depth);
            System.arraycopy(other.typedSets, 0, typedSets, 0, depth);
            System.arraycopy(other.typedLengths, 0, typedLengths, 0, depth * FIELDS);
            System.arraycopy(other.typedTexts, 0, typedTexts, 0, depth * FIELDS * MAX_TYPED);
            System.arraycopy(other.document, 0, document, 0, documentLength);
        }

        void push(int snippet, int current) {
            if (depth >= MAX_SESSIONS) {
                return;
            }
            snippets[depth] = snippet;
            currents[depth] = current;
            typedSets[depth] = 0;
            for (int field = 0; field < FIELDS; field++) {
                typedLengths[depth * FIELDS + field] = 0;
            }
            depth++;
        }

        boolean isTyped(int level, int field) {
            return (typedSets[level] >> field & 1) != 0;
        }

        /** 0 for a field that is not typed. */
        int typedLength(int level, int field) {
            return typedLengths[level * FIELDS + field];
        }

        void makeNotTyped(int level, int field) {
            typedSets[level] &= ~(1 << field);
            typedLengths[level * FIELDS + field] = 0;
        }

        void typeBehind(int level, int field, int[] from, int start, int length) {
            int row = level * FIELDS + field;
            int before = typedLengths[row];
            int taken = Math.min(length, MAX_TYPED - before);
            System.arraycopy(from, start, typedTexts, row * MAX_TYPED + before, taken);
            typedLengths[row] = before + taken;
            typedSets[level] |= 1 << field;
        }

        void appendToDocument(int[] from, int length) {
            int taken = Math.min(length, MAX_DOCUMENT - documentLength);
            System.arraycopy(from, 0, document, documentLength, taken);
            documentLength += taken;
        }
    }

    /** What a session shows and tells, as it is or as it would be. */
    private static final class View {
        Snippet snippet;
        int typedSet;
        final int[] typedLengths = new int[FIELDS];
        int live;
        final boolean[] isShown = new boolean[MAX_OCCURRENCES];
        final int[] shownDefaults = new int[FIELDS];
        final int[] shownCounts = new int[FIELDS];
        // What would be told can be longer than an int can say.
        final long[] valueLengths = new long[FIELDS];
        long textLength;
        final int[] order = new int[FIELDS];
        int orderLength;
        // A row of MAX_TEXT bytes a field.
        final int[] values = new int[FIELDS * MAX_TEXT];
        final int[] text = new int[MAX_TEXT];

        View() {
            snippet = new Snippet(new int[0], new int[0]);
        }

        void take(Snippet taken, State state, int level) {
            snippet = taken;
            typedSet = state.typedSets[level];
            for (int field = 0; field < FIELDS; field++) {
                int length = state.typedLength(level, field);
                int from = (level * FIELDS + field) * MAX_TYPED;
                typedLengths[field] = length;
                System.arraycopy(state.typedTexts, from, values, field * MAX_TEXT, length);
            }
        }

        void takeUntouched(Snippet taken) {
            snippet = taken;
            typedSet = 0;
        }

        void supposeTyped(int field, int typedLength) {
            typedSet |= 1 << field;
            typedLengths[field] = typedLength;
        }

        void supposeNotTyped(int field) {
            typedSet &= ~(1 << field);
        }

        boolean isTyped(int field) {
            return (typedSet >> field & 1) != 0;
        }

        boolean isLive(int field) {
            return (live >> field & 1) != 0;
        }

        boolean isDefaultShown(int occurrence) {
            return shownDefaults[snippet.fields[occurrence]] == occurrence;
        }

        void measure() {
            show();
            // A field depends on more fields than each of those on which it depends.
            for (int count = 0; count < FIELDS; count++) {
                for (int field = 0; field < FIELDS; field++) {
                    if (Integer.bitCount(snippet.dependsOn[field]) == count) {
                        int part = shownDefaults[field];
                        int typedLength = isTyped(field) ? typedLengths[field] : 0;
                        valueLengths[field] = part == NONE ? typedLength : measurePart(part);
                    }
                }
            }
            textLength = measurePart(NONE);
        }

        private void show() {
            live = 0;
            for (int field = 0; field < FIELDS; field++) {
                shownDefaults[field] = NONE;
                shownCounts[field] = 0;
            }
            // What decides over an occurrence has a lower number.
            for (int i = 0; i < snippet.occurrences; i++) {
                int field = snippet.fields[i];
                int part = snippet.parents[i];
                isShown[i] = part == NONE || isDefaultShown(part);
                if (isShown[i]) {
                    live |= 1 << field;
                    shownCounts[field]++;
                    if (snippet.hasDefault[i] && !isTyped(field) && shownDefaults[field] == NONE) {
                        shownDefaults[field] = i;
                    }
                }
            }
        }

        private long measurePart(int part) {
            long length = snippet.literalsOfParts[part + 1];
            for (int i = 0; i < snippet.occurrences; i++) {
                if (snippet.parents[i] == part) {
                    length += changedLength(i);
                }
            }
            return length;
        }

        long changedLength(int occurrence) {
            long length = valueLengths[snippet.fields[occurrence]];
            switch (snippet.changes[occurrence]) {
                case FIRST: return Math.min(length, 1);
                case NUMBER: return countDigits(length);
                default: return length;
            }
        }

        private static int countDigits(long number) {
            int count = 1;
            long rest = number / 10;
            for (int i = 0; i < 20 && rest > 0; i++) {
                rest /= 10;
                count++;
            }
            return count;
        }

        /** Where in the TEXT an occurrence begins; NONE if it is not shown. */
        int startOf(int occurrence) {
            if (!isShown[occurrence]) {
                return NONE;
            }
            long start = 0;
            int inner = occurrence;
            for (int step = 0; step <= MAX_NESTING && inner != NONE; step++) {
                start += lengthAheadInPart(inner);
                inner = snippet.parents[inner];
            }
            return (int) start;
        }

        private long lengthAheadInPart(int occurrence) {
            int part = snippet.parents[occurrence];
            long length = 0;
            for (int i = snippet.firstItemOf(part); i < snippet.itemOfOccurrence[occurrence]; i++) {
                if (snippet.partOfItem[i] == part) {
                    int item = snippet.items[i];
                    length += item >= 0 ? 1 : changedLength(-item - 1);
                }
            }
            return length;
        }

        void arrangeOrder(boolean isByPlaces) {
            orderLength = 0;
            int placed = 1;
            if (isByPlaces) {
                for (int i = 0; i < snippet.occurrences; i++) {
                    int field = snippet.fields[i];
                    if (isShown[i] && (placed >> field & 1) == 0) {
                        placed |= 1 << field;
                        addToOrder(field);
                    }
                }
            } else {
                for (int field = 1; field < FIELDS; field++) {
                    if (isLive(field)) {
                        addToOrder(field);
                    }
                }
            }
            if (isLive(0)) {
                addToOrder(0);
            }
        }

        private void addToOrder(int field) {
            if (orderLength < FIELDS) {
                order[orderLength] = field;
                orderLength++;
            }
        }

        int placeOf(int field) {
            for (int place = 0; place < orderLength; place++) {
                if (order[place] == field) {
                    return place;
                }
            }
            return NONE;
        }

        int reasonNotLive(int field) {
            if (isLive(field)) {
                return 0;
            }
            if ((snippet.fieldSet >> field & 1) == 0) {
                return 1;
            }
            boolean isYielded = false;
            for (int i = 0; i < snippet.occurrences; i++) {
                int part = snippet.parents[i];
                if (snippet.fields[i] == field && part != NONE && isShown[part]) {
                    if (isTyped(snippet.fields[part])) {
                        return 2;
                    }
                    isYielded = true;
                }
            }
            return isYielded ? 3 : 4;
        }

        int countYielded() {
            int count = 0;
            for (int i = 0; i < snippet.occurrences; i++) {
                if (isShown[i] && snippet.hasDefault[i] && !isDefaultShown(i)) {
                    count++;
                }
            }
            return count;
        }

        int countMirrored() {
            int count = 0;
            for (int field = 0; field < FIELDS; field++) {
                if (shownCounts[field] >= 2) {
                    count++;
                }
            }
            return count;
        }

        int fieldOfLongestValue() {
            int longest = NONE;
            for (int field = 0; field < FIELDS; field++) {
                if (isLive(field) && (longest == NONE || valueLengths[field] > valueLengths[longest])) {
                    longest = field;
                }
            }
            return longest;
        }

        long lengthOfLiveValues() {
            long sum = 0;
            for (int field = 0; field < FIELDS; field++) {
                if (isLive(field)) {
                    sum += valueLengths[field];
                }
            }
            return sum;
        }

        int valueByte(int field, int index) {
            return index >= 0 && index < valueLengths[field] && index < MAX_TEXT
                    ? values[field * MAX_TEXT + index] : NONE;
        }

        /**
         * For a session as it is: what is typed stands in its row since take(), and each other value
         * stands whole in the TEXT, so it fits its row.
         */
        void renderValues() {
            for (int count = 0; count < FIELDS; count++) {
                for (int field = 0; field < FIELDS; field++) {
                    boolean isDue = Integer.bitCount(snippet.dependsOn[field]) == count;
                    if (isDue && shownDefaults[field] != NONE) {
                        renderPart(shownDefaults[field], values, field * MAX_TEXT);
                    }
                }
            }
        }

        void renderText() {
            renderValues();
            renderPart(NONE, text, 0);
        }

        private void renderPart(int part, int[] into, int start) {
            int at = start;
            int limit = start + MAX_TEXT;
            for (int i = snippet.firstItemOf(part); i < snippet.endItemOf(part); i++) {
                if (snippet.partOfItem[i] == part) {
                    int item = snippet.items[i];
                    int length = item >= 0 ? 1 : (int) Math.min(changedLength(-item - 1), MAX_TEXT);
                    for (int k = 0; k < length && at < limit; k++) {
                        into[at] = item >= 0 ? item : changedByte(-item - 1, k, length - 1 - k);
                        at++;
                    }
                }
            }
        }

        /** The byte with so many bytes ahead of it and so many behind it. */
        private int changedByte(int occurrence, int ahead, int behind) {
            int field = snippet.fields[occurrence];
            int row = field * MAX_TEXT;
            switch (snippet.changes[occurrence]) {
                case UPPER: return toUpper(values[row + ahead]);
                case LOWER: return toLower(values[row + ahead]);
                case REVERSED: return values[row + behind];
                case NUMBER: return digitAhead(valueLengths[field], behind);
                default: return values[row + ahead];
            }
        }

        private static int toUpper(int told) {
            return told >= 'a' && told <= 'z' ? told - 'a' + 'A' : told;
        }

        private static int toLower(int told) {
            return told >= 'A' && told <= 'Z' ? told - 'A' + 'a' : told;
        }

        /** The digit with so many digits behind it. */
        private static int digitAhead(long number, int behind) {
            long rest = number;
            for (int i = 0; i < behind; i++) {
                rest /= 10;
            }
            return '0' + (int) (rest % 10);
        }
    }
}
