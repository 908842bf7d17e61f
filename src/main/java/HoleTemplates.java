/**
 * Templates of web pages with holes. The context of each hole is found when the template is compiled, a template in
 * which it isn't certain is refused, and every value is written so that it stays one piece of text in its context.
 */
public final class HoleTemplates {
    public static final int NONE = -1;

    private static final int ROW_LIMIT = 40;
    private static final int TEMPLATE_LIMIT = 240;
    private static final int WRITING_LIMIT = 1000;
    private static final int OPEN_LIMIT = 6;
    private static final int VARIABLE_LIMIT = 8;
    private static final int ITEM_LIMIT = 4;

    /** What stands for a character where there is none; no text can hold it. */
    private static final char NO_CHARACTER = 0;

    private final Text row;
    private final Text template;
    private final Items items;
    private final Compilation compilation;
    private final Writer writer;

    public HoleTemplates() {
        row = new Text(ROW_LIMIT);
        template = new Text(TEMPLATE_LIMIT);
        items = new Items();
        compilation = new Compilation();
        writer = new Writer();
    }

    public boolean type(char c) {
        return Signs.isWritable(c) && row.put(c);
    }

    public int wipe() {
        return row.empty();
    }

    public int add() throws IllegalStateException {
        if (template.length + row.length > TEMPLATE_LIMIT) {
            throw new IllegalStateException("the template would be too long");
        }
        for (int i = 0; i < row.length; i++) {
            template.put(row.at(i));
        }
        row.empty();
        compilation.compiled = false;
        return template.length;
    }

    public int clear() {
        compilation.compiled = false;
        return template.empty();
    }

    public int compile() throws IllegalArgumentException {
        if (!compilation.reads(template)) {
            throw new IllegalArgumentException("the template is refused");
        }
        return compilation.holeCount;
    }

    public boolean accepts() {
        return compilation.reads(template);
    }

    public int fault() {
        return compilation.faultPlace;
    }

    public int hole(int k) {
        return compilation.holeCode(k);
    }

    public int item(int v) throws IndexOutOfBoundsException, IllegalStateException {
        if (!items.isVariable(v)) {
            throw new IndexOutOfBoundsException("no such variable");
        }
        if (!items.keep(v, row)) {
            throw new IllegalStateException("the variable has all its items");
        }
        row.empty();
        return items.count(v);
    }

    public int forget(int v) throws IndexOutOfBoundsException {
        if (!items.isVariable(v)) {
            throw new IndexOutOfBoundsException("no such variable");
        }
        return items.drop(v);
    }

    public int write() throws UnsupportedOperationException, IllegalStateException {
        if (!compilation.compiled) {
            throw new UnsupportedOperationException("the template is not compiled");
        }
        if (!writer.fill(compilation.symbols, items)) {
            throw new IllegalStateException("the writing would be too long");
        }
        return writer.out.length;
    }

    public int written() {
        return writer.out.length;
    }

    public char letter(int i) {
        return writer.out.at(i);
    }

    /** The sets of characters that the document names. */
    private static final class Signs {
        private static final String HEX_DIGITS = "0123456789ABCDEF";

        private Signs() {
        }

        static boolean isWritable(char c) {
            return c == '\n' || c >= 32 && c <= 126;
        }

        static boolean isBlank(char c) {
            return c == ' ' || c == '\n';
        }

        static boolean isLetter(char c) {
            return c >= 'a' && c <= 'z';
        }

        static boolean isLetterOrDigit(char c) {
            return c >= 'a' && c <= 'z' || c >= 'A' && c <= 'Z' || c >= '0' && c <= '9';
        }

        static boolean isVariable(char c) {
            return c >= 'a' && c < 'a' + VARIABLE_LIMIT;
        }

        static boolean isQuote(char c) {
            return c == '"' || c == '\'';
        }

        static char small(char c) {
            return c >= 'A' && c <= 'Z' ? (char) (c - 'A' + 'a') : c;
        }

        static char highHex(char c) {
            return HEX_DIGITS.charAt(c >> 4 & 15);
        }

        static char lowHex(char c) {
            return HEX_DIGITS.charAt(c & 15);
        }
    }

    /** A row of characters with a limit. */
    private static final class Text {
        private final char[] chars;
        private int length;
        /** Whether a character has found no room since the text was empty. */
        private boolean spilled;

        Text(int limit) {
            chars = new char[Math.max(limit, 0)];
        }

        boolean put(char c) {
            if (length >= chars.length) {
                spilled = true;
                return false;
            }
            chars[length] = c;
            length++;
            return true;
        }

        void putAll(String s) {
            for (int i = 0; i < s.length(); i++) {
                put(s.charAt(i));
            }
        }

        void putHex(char c) {
            put(Signs.highHex(c));
            put(Signs.lowHex(c));
        }

        char at(int i) {
            return i >= 0 && i < length && i < chars.length ? chars[i] : NO_CHARACTER;
        }

        /** Answers how many characters there were. */
        int empty() {
            int had = length;
            length = 0;
            spilled = false;
            return had;
        }
    }

    /** The items of all variables. An item goes by one number, which tells its variable too. */
    private static final class Items {
        private final char[] chars;
        private final int[] lengths;
        private final int[] counts;
        /** For each variable the item that it has alone while a loop writes it, or NONE. */
        private final int[] alone;

        Items() {
            chars = new char[VARIABLE_LIMIT * ITEM_LIMIT * ROW_LIMIT];
            lengths = new int[VARIABLE_LIMIT * ITEM_LIMIT];
            counts = new int[VARIABLE_LIMIT];
            alone = new int[VARIABLE_LIMIT];
            for (int v = 0; v < alone.length; v++) {
                alone[v] = NONE;
            }
        }

        boolean isVariable(int v) {
            return v >= 0 && v < VARIABLE_LIMIT;
        }

        int count(int v) {
            return isVariable(v) ? counts[v] : 0;
        }

        boolean keep(int v, Text row) {
            if (!isVariable(v) || counts[v] >= ITEM_LIMIT || row.length > ROW_LIMIT) {
                return false;
            }
            int number = v * ITEM_LIMIT + counts[v];
            for (int i = 0; i < row.length; i++) {
                chars[number * ROW_LIMIT + i] = row.at(i);
            }
            lengths[number] = row.length;
            counts[v]++;
            return true;
        }

        int drop(int v) {
            int had = count(v);
            if (isVariable(v)) {
                counts[v] = 0;
            }
            return had;
        }

        /** The item that the variable has alone, or NONE. */
        int lone(int v) {
            return isVariable(v) ? alone[v] : NONE;
        }

        void leaveAlone(int v, int number) {
            if (isVariable(v)) {
                alone[v] = number;
            }
        }

        /** The number of the first item, also where the variable has none. */
        int from(int v) {
            if (!isVariable(v)) {
                return 0;
            }
            return alone[v] != NONE ? alone[v] : v * ITEM_LIMIT;
        }

        /** The number behind the last item. */
        int upTo(int v) {
            if (!isVariable(v)) {
                return 0;
            }
            return alone[v] != NONE ? alone[v] + 1 : v * ITEM_LIMIT + counts[v];
        }

        int first(int v) {
            return from(v) < upTo(v) ? from(v) : NONE;
        }

        int length(int number) {
            return number >= 0 && number < lengths.length ? lengths[number] : 0;
        }

        char at(int number, int i) {
            boolean there = number >= 0 && number < lengths.length && i >= 0 && i < lengths[number];
            return there ? chars[number * ROW_LIMIT + i] : NO_CHARACTER;
        }

        /** Whether the first characters are these, with A .. Z as a .. z. */
        boolean begins(int number, int width, String small) {
            boolean same = width == small.length();
            for (int i = 0; i < width && same; i++) {
                same = Signs.small(at(number, i)) == small.charAt(i);
            }
            return same;
        }
    }

    /** The template cut into symbols, with what compiling has found out about them. */
    private static final class Symbols {
        private static final int END = 0;
        private static final int CHARACTER = 1;
        private static final int HOLE = 2;
        private static final int CHOICE = 3;
        private static final int LOOP = 4;
        private static final int OTHERWISE = 5;
        private static final int CLOSE = 6;
        private static final int UNREADABLE = 7;

        private final int[] kinds;
        private final char[] signs;
        private final int[] variables;
        private final int[] places;
        private final int[] turns;
        private final int[] closes;
        private final int[] codes;
        private int count;
        private int templateLength;

        Symbols() {
            kinds = new int[TEMPLATE_LIMIT];
            signs = new char[TEMPLATE_LIMIT];
            variables = new int[TEMPLATE_LIMIT];
            places = new int[TEMPLATE_LIMIT];
            turns = new int[TEMPLATE_LIMIT];
            closes = new int[TEMPLATE_LIMIT];
            codes = new int[TEMPLATE_LIMIT];
        }

        void cut(Text template) {
            count = 0;
            templateLength = template.length;
            int at = 0;
            while (at < templateLength) {
                int width = template.at(at) == '{' ? cutBrace(template, at) : take(CHARACTER, template.at(at), at, 1);
                at += Math.max(width, 1);
            }
        }

        private int cutBrace(Text template, int at) {
            char second = template.at(at + 1);
            char third = template.at(at + 2);
            if (second == '{') {
                return take(CHARACTER, '{', at, 2);
            }
            if (third == '}' && Signs.isVariable(second)) {
                return take(HOLE, second, at, 3);
            }
            if (third == '}' && second == ':') {
                return take(OTHERWISE, second, at, 3);
            }
            if (third == '}' && second == '/') {
                return take(CLOSE, second, at, 3);
            }
            if (Signs.isVariable(third) && template.at(at + 3) == '}') {
                if (second == '?') {
                    return take(CHOICE, third, at, 4);
                }
                if (second == '*') {
                    return take(LOOP, third, at, 4);
                }
            }
            return take(UNREADABLE, second, at, 1);
        }

        private int take(int kind, char sign, int place, int width) {
            if (count < TEMPLATE_LIMIT) {
                kinds[count] = kind;
                signs[count] = kind == CHARACTER ? sign : NO_CHARACTER;
                variables[count] = sign - 'a';
                places[count] = place;
                turns[count] = count;
                closes[count] = count;
                codes[count] = NONE;
                count++;
            }
            return width;
        }

        private boolean has(int i) {
            return i >= 0 && i < count && i < TEMPLATE_LIMIT;
        }

        int kind(int i) {
            return has(i) ? kinds[i] : END;
        }

        /** The character, or NO_CHARACTER where a run is at its end: so no piece can reach out of its run. */
        char sign(int i) {
            return i >= 0 && i < count && i < TEMPLATE_LIMIT ? signs[i] : NO_CHARACTER;
        }

        int variable(int i) {
            return has(i) ? variables[i] : NONE;
        }

        int place(int i) {
            return has(i) ? places[i] : templateLength;
        }

        int code(int i) {
            return has(i) ? codes[i] : NONE;
        }

        /** Where the first branch of a choice ends: its otherwise, or what closes it. */
        int turn(int i) {
            return has(i) ? turns[i] : i;
        }

        int close(int i) {
            return has(i) ? closes[i] : i;
        }

        void noteCode(int i, int code) {
            if (has(i)) {
                codes[i] = code;
            }
        }

        void noteTurn(int i, int turn) {
            if (has(i)) {
                turns[i] = turn;
            }
        }

        void noteClose(int i, int close) {
            if (has(i)) {
                closes[i] = close;
            }
        }

        boolean spells(int from, int to, String s) {
            boolean same = to - from == s.length();
            for (int i = 0; i < s.length() && same; i++) {
                same = sign(from + i) == s.charAt(i);
            }
            return same;
        }

        int behindLetters(int from) {
            int i = from;
            while (i < count && Signs.isLetter(sign(i))) {
                i++;
            }
            return i;
        }

        int behindName(int from) {
            int i = from;
            while (i < count && (Signs.isLetter(sign(i)) || sign(i) == '-')) {
                i++;
            }
            return i;
        }

        int behindBlanks(int from) {
            int i = from;
            while (i < count && Signs.isBlank(sign(i))) {
                i++;
            }
            return i;
        }
    }

    /** The context that reading is in. What doesn't belong to the context is 0, so that equal contexts pack equally. */
    private static final class Context {
        private static final int TEXT = 0;
        private static final int TAG = 1;
        private static final int VALUE = 2;
        private static final int SCRIPT = 3;
        private static final int STYLE = 4;
        private static final int TITLE = 5;
        private static final int COMMENT = 6;

        private static final int ELEMENT_SCRIPT = 1;
        private static final int ELEMENT_STYLE = 2;
        private static final int ELEMENT_TITLE = 3;

        private static final int KIND_PLAIN = 0;
        private static final int KIND_URL = 1;
        private static final int KIND_SCRIPT = 2;
        private static final int KIND_STYLE = 3;

        private static final int LINE_COMMENT = 3;
        private static final int BLOCK_COMMENT = 4;

        private static final int CODE_TEXT = 0;
        private static final int CODE_PLAIN = 1;
        private static final int CODE_URL = 2;
        private static final int CODE_SCRIPT = 8;
        private static final int CODE_STYLE = 12;
        private static final int CODE_IN_VALUE = 16;

        private int name;
        private int element;
        private char quote;
        private int kind;
        private int part;

        void enter(int newName) {
            name = newName;
            element = 0;
            quote = 0;
            kind = 0;
            part = 0;
        }

        void enterTag(int newElement) {
            enter(TAG);
            element = newElement;
        }

        void enterValue(char newQuote, int newKind) {
            name = VALUE;
            quote = newQuote;
            kind = newKind;
            part = 0;
        }

        /** What the > of the tag leads to. */
        void enterElement() {
            if (element == ELEMENT_SCRIPT) {
                enter(SCRIPT);
            } else if (element == ELEMENT_STYLE) {
                enter(STYLE);
            } else {
                enter(element == ELEMENT_TITLE ? TITLE : TEXT);
            }
        }

        boolean isStyle() {
            return name == STYLE || name == VALUE && kind == KIND_STYLE;
        }

        int packed() {
            return quote << 10 | name << 7 | element << 5 | kind << 3 | part;
        }

        void unpack(int packed) {
            quote = (char) (packed >> 10 & 127);
            name = packed >> 7 & 7;
            element = packed >> 5 & 3;
            kind = packed >> 3 & 3;
            part = packed & 7;
        }

        /** The number of this context for a hole, NONE where no hole may stand. */
        int code() {
            boolean outOfComments = part < LINE_COMMENT;
            switch (name) {
                case TEXT:
                case TITLE:
                    return CODE_TEXT;
                case SCRIPT:
                    return outOfComments ? CODE_SCRIPT + part : NONE;
                case STYLE:
                    return outOfComments ? CODE_STYLE + part : NONE;
                case VALUE:
                    return outOfComments ? codeInValue() : NONE;
                default:
                    return NONE;
            }
        }

        private int codeInValue() {
            switch (kind) {
                case KIND_URL:
                    return CODE_URL + part;
                case KIND_SCRIPT:
                    return CODE_IN_VALUE + CODE_SCRIPT + part;
                case KIND_STYLE:
                    return CODE_IN_VALUE + CODE_STYLE + part;
                default:
                    return CODE_PLAIN;
            }
        }
    }

    /** Reads one piece: answers how many characters it has, 0 if there is none, and leads on to its context. */
    private static final class Pieces {
        private Pieces() {
        }

        static int read(Symbols s, int at, Context c) {
            switch (c.name) {
                case Context.TEXT:
                    return inText(s, at, c);
                case Context.TAG:
                    return inTag(s, at, c);
                case Context.VALUE:
                    return inValue(s, at, c);
                case Context.TITLE:
                    return inTitle(s, at, c);
                case Context.COMMENT:
                    return inComment(s, at, c);
                default:
                    return inCode(s, at, c);
            }
        }

        private static int inText(Symbols s, int at, Context c) {
            if (s.sign(at) == '&') {
                return ampersand(s, at);
            }
            if (s.sign(at) != '<') {
                return 1;
            }
            if (s.spells(at, at + 4, "<!--")) {
                c.enter(Context.COMMENT);
                return 4;
            }
            return s.sign(at + 1) == '/' ? endTag(s, at) : startTag(s, at, c);
        }

        private static int endTag(Symbols s, int at) {
            int end = s.behindLetters(at + 2);
            return end > at + 2 && s.sign(end) == '>' ? end + 1 - at : 0;
        }

        private static int startTag(Symbols s, int at, Context c) {
            int end = s.behindLetters(at + 1);
            char next = s.sign(end);
            if (end == at + 1 || !(Signs.isBlank(next) || next == '/' || next == '>')) {
                return 0;
            }
            c.enterTag(elementOf(s, at + 1, end));
            return end - at;
        }

        private static int elementOf(Symbols s, int from, int to) {
            if (s.spells(from, to, "script")) {
                return Context.ELEMENT_SCRIPT;
            }
            if (s.spells(from, to, "style")) {
                return Context.ELEMENT_STYLE;
            }
            return s.spells(from, to, "title") ? Context.ELEMENT_TITLE : 0;
        }

        private static int ampersand(Symbols s, int at) {
            int end = at + 1;
            while (end < s.count && (Signs.isLetterOrDigit(s.sign(end)) || s.sign(end) == '#')) {
                end++;
            }
            return s.sign(end) != NO_CHARACTER ? 1 : 0;
        }

        private static int ifTwoFollow(Symbols s, int at) {
            return s.sign(at + 1) != NO_CHARACTER && s.sign(at + 2) != NO_CHARACTER ? 1 : 0;
        }

        private static int inTag(Symbols s, int at, Context c) {
            char sign = s.sign(at);
            if (Signs.isBlank(sign)) {
                return 1;
            }
            if (sign == '>') {
                c.enterElement();
                return 1;
            }
            if (sign == '/' && s.sign(at + 1) == '>' && c.element == 0) {
                c.enter(Context.TEXT);
                return 2;
            }
            return Signs.isLetter(sign) ? attribute(s, at, c) : 0;
        }

        private static int attribute(Symbols s, int at, Context c) {
            int nameEnd = s.behindName(at);
            int blanksEnd = s.behindBlanks(nameEnd);
            char next = s.sign(blanksEnd);
            if (next != '=') {
                return blanksEnd > nameEnd || next == '/' || next == '>' ? blanksEnd - at : 0;
            }
            int quoteAt = s.behindBlanks(blanksEnd + 1);
            char quote = s.sign(quoteAt);
            if (!Signs.isQuote(quote)) {
                return 0;
            }
            c.enterValue(quote, kindOf(s, at, nameEnd));
            return quoteAt + 1 - at;
        }

        private static int kindOf(Symbols s, int from, int to) {
            if (s.spells(from, to, "href") || s.spells(from, to, "src") || s.spells(from, to, "action")) {
                return Context.KIND_URL;
            }
            if (s.spells(from, to, "style")) {
                return Context.KIND_STYLE;
            }
            return s.spells(from, from + 2, "on") ? Context.KIND_SCRIPT : Context.KIND_PLAIN;
        }

        private static int inValue(Symbols s, int at, Context c) {
            char sign = s.sign(at);
            if (sign == c.quote) {
                if (c.part != 0 && c.kind != Context.KIND_URL) {
                    return 0;
                }
                c.enterTag(c.element);
                return 1;
            }
            if (c.kind == Context.KIND_URL) {
                return inUrl(s, at, c);
            }
            if (c.kind == Context.KIND_PLAIN) {
                return sign == '&' ? ampersand(s, at) : 1;
            }
            return sign == '&' ? 0 : inCode(s, at, c);
        }

        private static int inUrl(Symbols s, int at, Context c) {
            char sign = s.sign(at);
            if (sign == '&' && ampersand(s, at) == 0 || sign == '%' && ifTwoFollow(s, at) == 0) {
                return 0;
            }
            if (sign == '?' || sign == '#') {
                c.part = 2;
            } else if (c.part == 0) {
                c.part = 1;
            }
            return 1;
        }

        /** In SCRIPT and STYLE, and in values of these kinds. */
        private static int inCode(Symbols s, int at, Context c) {
            char sign = s.sign(at);
            if (sign == '<' && c.name != Context.VALUE) {
                return lessThan(s, at, c);
            }
            switch (c.part) {
                case 0:
                    return inBareCode(s, at, c);
                case Context.LINE_COMMENT:
                    c.part = sign == '\n' ? 0 : c.part;
                    return 1;
                case Context.BLOCK_COMMENT:
                    return inBlockComment(s, at, c);
                default:
                    return inString(s, at, c);
            }
        }

        private static int lessThan(Symbols s, int at, Context c) {
            String end = c.isStyle() ? "</style>" : "</script>";
            if (c.part == 0 && s.spells(at, at + end.length(), end)) {
                c.enter(Context.TEXT);
                return end.length();
            }
            char next = s.sign(at + 1);
            return next == NO_CHARACTER || next == '/' || next == '!' ? 0 : 1;
        }

        private static int inBareCode(Symbols s, int at, Context c) {
            char sign = s.sign(at);
            char next = s.sign(at + 1);
            boolean style = c.isStyle();
            if (sign == '/' && next == '*') {
                c.part = Context.BLOCK_COMMENT;
                return 2;
            }
            if (sign == '/' && next == '/' && !style) {
                c.part = Context.LINE_COMMENT;
                return 2;
            }
            if (sign == '/') {
                return style && next != NO_CHARACTER ? 1 : 0;
            }
            if (sign == '`' && !style) {
                return 0;
            }
            if (Signs.isQuote(sign)) {
                c.part = sign == '\'' ? 1 : 2;
            }
            return 1;
        }

        private static int inString(Symbols s, int at, Context c) {
            char sign = s.sign(at);
            if (sign == (c.part == 1 ? '\'' : '"')) {
                c.part = 0;
                return 1;
            }
            if (sign != '\\') {
                return sign == '\n' ? 0 : 1;
            }
            char next = s.sign(at + 1);
            boolean ownQuote = c.name == Context.VALUE && next == c.quote;
            return next == NO_CHARACTER || next == '<' || next == '&' || ownQuote ? 0 : 2;
        }

        private static int inBlockComment(Symbols s, int at, Context c) {
            if (s.sign(at) != '*') {
                return 1;
            }
            char next = s.sign(at + 1);
            if (next == '/') {
                c.part = 0;
                return 2;
            }
            return next != NO_CHARACTER ? 1 : 0;
        }

        private static int inTitle(Symbols s, int at, Context c) {
            if (s.sign(at) == '&') {
                return ampersand(s, at);
            }
            if (s.sign(at) != '<') {
                return 1;
            }
            if (!s.spells(at, at + 8, "</title>")) {
                return 0;
            }
            c.enter(Context.TEXT);
            return 8;
        }

        private static int inComment(Symbols s, int at, Context c) {
            if (s.spells(at, at + 3, "-->")) {
                c.enter(Context.TEXT);
                return 3;
            }
            return s.sign(at) == '-' ? ifTwoFollow(s, at) : 1;
        }
    }

    /** Reads the template, and keeps what was found out. */
    private static final class Compilation {
        private final Symbols symbols;
        private final Context context;
        private final int[] holeCodes;
        /** For each choice and loop that is open: its symbol, and the contexts that it and its otherwise stand in. */
        private final int[] openSymbols;
        private final int[] openContexts;
        private final int[] turnContexts;
        private int openCount;
        private int holeCount;
        private int faultPlace;
        private boolean compiled;

        Compilation() {
            symbols = new Symbols();
            context = new Context();
            holeCodes = new int[TEMPLATE_LIMIT];
            openSymbols = new int[OPEN_LIMIT];
            openContexts = new int[OPEN_LIMIT];
            turnContexts = new int[OPEN_LIMIT];
            faultPlace = NONE;
        }

        boolean reads(Text template) {
            symbols.cut(template);
            context.enter(Context.TEXT);
            openCount = 0;
            holeCount = 0;
            int at = 0;
            int width = 1;
            while (at < symbols.count && width > 0) {
                width = symbols.kind(at) == Symbols.CHARACTER ? Pieces.read(symbols, at, context) : readSymbol(at);
                at += Math.max(width, 0);
            }
            compiled = width > 0 && openCount == 0 && context.name == Context.TEXT;
            faultPlace = compiled ? NONE : symbols.place(at);
            return compiled;
        }

        int holeCode(int k) {
            return compiled && k >= 0 && k < holeCount && k < TEMPLATE_LIMIT ? holeCodes[k] : NONE;
        }

        /** Answers 1 if the symbol may stand there, otherwise 0. */
        private int readSymbol(int at) {
            boolean fits;
            switch (symbols.kind(at)) {
                case Symbols.HOLE:
                    fits = readHole(at);
                    break;
                case Symbols.CHOICE:
                case Symbols.LOOP:
                    fits = open(at);
                    break;
                case Symbols.OTHERWISE:
                    fits = turn(at);
                    break;
                case Symbols.CLOSE:
                    fits = close(at);
                    break;
                default:
                    fits = false;
                    break;
            }
            return fits ? 1 : 0;
        }

        private boolean readHole(int at) {
            int code = context.code();
            if (code == NONE || holeCount >= TEMPLATE_LIMIT) {
                return false;
            }
            symbols.noteCode(at, code);
            holeCodes[holeCount] = code;
            holeCount++;
            if (code == Context.CODE_URL) {
                context.part = 1;
            }
            return true;
        }

        private boolean open(int at) {
            if (openCount >= OPEN_LIMIT) {
                return false;
            }
            openSymbols[openCount] = at;
            openContexts[openCount] = context.packed();
            turnContexts[openCount] = NONE;
            openCount++;
            return true;
        }

        private boolean turn(int at) {
            int top = openCount - 1;
            if (top < 0 || top >= OPEN_LIMIT) {
                return false;
            }
            if (symbols.kind(openSymbols[top]) != Symbols.CHOICE || turnContexts[top] != NONE) {
                return false;
            }
            turnContexts[top] = context.packed();
            context.unpack(openContexts[top]);
            symbols.noteTurn(openSymbols[top], at);
            return true;
        }

        private boolean close(int at) {
            int top = openCount - 1;
            if (top < 0 || top >= OPEN_LIMIT) {
                return false;
            }
            boolean turned = turnContexts[top] != NONE;
            if (context.packed() != (turned ? turnContexts[top] : openContexts[top])) {
                return false;
            }
            if (!turned) {
                symbols.noteTurn(openSymbols[top], at);
            }
            symbols.noteClose(openSymbols[top], at);
            openCount = top;
            return true;
        }
    }

    /** Writes the compiled template. */
    private static final class Writer {
        private final Text out;

        Writer() {
            out = new Text(WRITING_LIMIT);
        }

        /** Answers whether all of it has found room; the writing is empty if not. */
        boolean fill(Symbols s, Items items) {
            out.empty();
            span(s, items, 0, s.count, 0);
            if (out.spilled) {
                out.empty();
                return false;
            }
            return true;
        }

        private void span(Symbols s, Items items, int from, int to, int depth) {
            if (depth > OPEN_LIMIT) {
                return;
            }
            for (int at = from; at < to && !out.spilled; at = Math.max(s.close(at), at) + 1) {
                switch (s.kind(at)) {
                    case Symbols.CHARACTER:
                        out.put(s.sign(at));
                        break;
                    case Symbols.HOLE:
                        Values.put(out, items, items.first(s.variable(at)), s.code(at));
                        break;
                    case Symbols.CHOICE:
                        choice(s, items, at, depth);
                        break;
                    case Symbols.LOOP:
                        loop(s, items, at, depth);
                        break;
                    default:
                        break;
                }
            }
        }

        private void choice(Symbols s, Items items, int at, int depth) {
            if (items.length(items.first(s.variable(at))) > 0) {
                span(s, items, at + 1, s.turn(at), depth + 1);
            } else {
                span(s, items, s.turn(at) + 1, s.close(at), depth + 1);
            }
        }

        private void loop(Symbols s, Items items, int at, int depth) {
            int v = s.variable(at);
            int aloneBefore = items.lone(v);
            int end = items.upTo(v);
            for (int number = items.from(v); number < end; number++) {
                items.leaveAlone(v, number);
                span(s, items, at + 1, s.close(at), depth + 1);
            }
            items.leaveAlone(v, aloneBefore);
        }
    }

    /** Writes an item as one piece of text of its context. */
    private static final class Values {
        private Values() {
        }

        static void put(Text out, Items items, int item, int code) {
            int part = code & 3;
            boolean inValue = code >= Context.CODE_IN_VALUE;
            if (code < Context.CODE_URL) {
                putMarkup(out, items, item);
            } else if (code == Context.CODE_URL && hasForeignScheme(items, item)) {
                out.putAll("#off");
            } else if (code < Context.CODE_SCRIPT) {
                putUrl(out, items, item, code - Context.CODE_URL);
            } else if ((code & Context.CODE_STYLE) == Context.CODE_SCRIPT) {
                putScript(out, items, item, part, inValue);
            } else if (part == 0) {
                putBareStyle(out, items, item);
            } else {
                putStyleString(out, items, item);
            }
        }

        private static void putMarkup(Text out, Items items, int item) {
            for (int i = 0; i < items.length(item); i++) {
                char c = items.at(item, i);
                if (c == '&') {
                    out.putAll("&amp;");
                } else if (c == '<') {
                    out.putAll("&lt;");
                } else if (c == '>') {
                    out.putAll("&gt;");
                } else if (c == '"') {
                    out.putAll("&#34;");
                } else if (c == '\'') {
                    out.putAll("&#39;");
                } else {
                    out.put(c);
                }
            }
        }

        private static void putUrl(Text out, Items items, int item, int part) {
            for (int i = 0; i < items.length(item); i++) {
                char c = items.at(item, i);
                if (Signs.isLetterOrDigit(c) || "-._~".indexOf(c) >= 0) {
                    out.put(c);
                } else if (part < 2 && "/:@!$*+,;=?#".indexOf(c) >= 0) {
                    out.put(c);
                } else if (part < 2 && c == '&') {
                    out.putAll("&amp;");
                } else {
                    out.put('%');
                    out.putHex(c);
                }
            }
        }

        private static boolean hasForeignScheme(Items items, int item) {
            int width = 0;
            while (width < items.length(item) && ":/?#".indexOf(items.at(item, width)) < 0) {
                width++;
            }
            if (items.at(item, width) != ':') {
                return false;
            }
            boolean known = items.begins(item, width, "http") || items.begins(item, width, "https")
                || items.begins(item, width, "mailto");
            return !known;
        }

        private static boolean staysInCode(char c) {
            return Signs.isLetterOrDigit(c) || " .,-_".indexOf(c) >= 0;
        }

        private static void putScript(Text out, Items items, int item, int part, boolean inValue) {
            String quote = part != 0 ? "" : inValue ? "&#34;" : "\"";
            out.putAll(quote);
            for (int i = 0; i < items.length(item); i++) {
                char c = items.at(item, i);
                if (staysInCode(c)) {
                    out.put(c);
                } else {
                    out.putAll("\\x");
                    out.putHex(c);
                }
            }
            out.putAll(quote);
        }

        private static void putStyleString(Text out, Items items, int item) {
            for (int i = 0; i < items.length(item); i++) {
                char c = items.at(item, i);
                if (staysInCode(c)) {
                    out.put(c);
                } else {
                    out.put('\\');
                    out.putHex(c);
                    out.put(' ');
                }
            }
        }

        private static void putBareStyle(Text out, Items items, int item) {
            if (!isStyleWord(items, item)) {
                out.putAll("none");
                return;
            }
            for (int i = 0; i < items.length(item); i++) {
                out.put(items.at(item, i));
            }
        }

        private static boolean isStyleWord(Items items, int item) {
            boolean good = items.length(item) > 0;
            for (int i = 0; i < items.length(item) && good; i++) {
                char c = items.at(item, i);
                good = Signs.isLetterOrDigit(c) || "-.%#".indexOf(c) >= 0;
            }
            return good;
        }
    }
}
