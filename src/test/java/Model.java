import java.util.ArrayList;
import java.util.HashMap;
import java.util.List;
import java.util.Map;
import java.util.regex.Matcher;
import java.util.regex.Pattern;

/**
 * The document once more, in another way: pieces are regular expressions, a context is a text, writing walks the
 * template's own characters. It is slow, and there to be compared with.
 */
final class Model {
    private static final Pattern SYMBOL = Pattern.compile("\\{\\{|\\{[a-h:/]\\}|\\{[?*][a-h]\\}|[^{]");
    private static final String AMPERSAND = "&(?=[a-zA-Z0-9#]*+[\\s\\S])";

    private static final Map<String, Pattern> PATTERNS = new HashMap<>();

    String row = "";
    String template = "";
    boolean compiled;
    int fault = -1;
    String writing = "";
    final List<List<String>> items = new ArrayList<>();
    private List<Integer> holes = new ArrayList<>();
    private String[] symbolAt;
    private List<String> symbols = new ArrayList<>();
    private List<Integer> codes = new ArrayList<>();

    Model() {
        for (int v = 0; v < 8; v++) {
            items.add(new ArrayList<>());
        }
    }

    int holeCount() {
        return holes.size();
    }

    int hole(int k) {
        return compiled && k >= 0 && k < holes.size() ? holes.get(k) : -1;
    }

    boolean compile() {
        holes = new ArrayList<>();
        symbols = new ArrayList<>();
        codes = new ArrayList<>();
        int stop = read();
        compiled = stop < 0;
        fault = stop;
        return compiled;
    }

    /** Cuts the template, from the left; a place where no symbol begins has none. */
    private void cut() {
        symbolAt = new String[template.length() + 1];
        Matcher m = SYMBOL.matcher(template);
        int at = 0;
        while (at < template.length() && m.region(at, template.length()).lookingAt()) {
            symbolAt[at] = m.group();
            at = m.end();
        }
    }

    private String runFrom(int from) {
        StringBuilder run = new StringBuilder();
        for (int i = from; symbolAt[i] != null && isCharacter(symbolAt[i]); i += symbolAt[i].length()) {
            run.append(symbolAt[i].charAt(0));
        }
        return run.toString();
    }

    /** Answers the fault, -1 if there is none. */
    private int read() {
        cut();
        String context = "TEXT";
        List<String[]> open = new ArrayList<>();
        int at = 0;
        while (at < template.length()) {
            String symbol = symbolAt[at];
            if (symbol == null) {
                return at;
            }
            if (isCharacter(symbol)) {
                String[] found = piece(runFrom(at), context);
                if (found == null) {
                    return at;
                }
                context = found[1];
                for (int n = 0; n < found[0].length(); n++) {
                    keep(symbolAt[at], -1);
                    at += symbolAt[at].length();
                }
                continue;
            }
            int code = -1;
            if (symbol.matches("\\{[a-h]\\}")) {
                code = code(context);
                if (code < 0) {
                    return at;
                }
                holes.add(code);
                context = code == 2 ? context.replaceFirst("0$", "1") : context;
            } else if (symbol.equals("{:}")) {
                if (open.isEmpty() || !open.get(open.size() - 1)[0].equals("?") || open.get(open.size() - 1)[2] != null) {
                    return at;
                }
                open.get(open.size() - 1)[2] = context;
                context = open.get(open.size() - 1)[1];
            } else if (symbol.equals("{/}")) {
                if (open.isEmpty()) {
                    return at;
                }
                String[] last = open.remove(open.size() - 1);
                if (!context.equals(last[2] != null ? last[2] : last[1])) {
                    return at;
                }
            } else {
                if (open.size() == 6) {
                    return at;
                }
                open.add(new String[] {symbol.substring(1, 2), context, null});
            }
            keep(symbol, code);
            at += symbol.length();
        }
        return open.isEmpty() && context.equals("TEXT") ? -1 : at;
    }

    private void keep(String symbol, int code) {
        symbols.add(symbol);
        codes.add(code);
    }

    private static boolean isCharacter(String symbol) {
        return symbol.length() == 1 || symbol.equals("{{");
    }

    private static int code(String context) {
        String[] c = context.split(" ");
        int part = c.length > 1 ? c[c.length - 1].charAt(0) - '0' : 0;
        switch (c[0]) {
            case "TEXT": case "TITLE": return 0;
            case "SCRIPT": return part > 2 ? -1 : 8 + part;
            case "STYLE": return part > 2 ? -1 : 12 + part;
            case "VALUE":
                switch (c[3]) {
                    case "PLAIN": return 1;
                    case "URL": return 2 + part;
                    case "SCRIPT": return part > 2 ? -1 : 24 + part;
                    default: return part > 2 ? -1 : 28 + part;
                }
            default: return -1;
        }
    }

    /** The piece at the beginning of the run and the context that it leads to. */
    private static String[] piece(String run, String context) {
        String[] c = context.split(" ");
        String[] table;
        switch (c[0]) {
            case "TEXT":
                table = new String[] {"<!--", "COMMENT", "</[a-z]+>", context, "<script(?=[ \n/>])", "TAG 1",
                    "<style(?=[ \n/>])", "TAG 2", "<title(?=[ \n/>])", "TAG 3", "<[a-z]++(?=[ \n/>])", "TAG 0",
                    AMPERSAND, context, "[^<&]", context};
                break;
            case "TAG":
                table = tag(context, c[1]);
                break;
            case "VALUE":
                table = value(context, c);
                break;
            case "TITLE":
                table = new String[] {"</title>", "TEXT", AMPERSAND, context, "[^<&]", context};
                break;
            case "COMMENT":
                table = new String[] {"-->", "TEXT", "-(?=[\\s\\S]{2})", context, "[^-]", context};
                break;
            default:
                table = code(c[0], c[0] + " ", c[1], "");
                break;
        }
        return first(run, table);
    }

    private static String[] first(String run, String[] table) {
        for (int i = 0; i < table.length; i += 2) {
            Matcher m = PATTERNS.computeIfAbsent(table[i], Pattern::compile).matcher(run);
            if (m.lookingAt()) {
                return new String[] {m.group(), m.groupCount() >= 2 ? valueContext(table[i + 1], m) : table[i + 1]};
            }
        }
        return null;
    }

    private static String valueContext(String element, Matcher m) {
        String name = m.group(1);
        String kind = "PLAIN";
        if (List.of("href", "src", "action").contains(name)) {
            kind = "URL";
        } else if (name.equals("style")) {
            kind = "STYLE";
        } else if (name.startsWith("on")) {
            kind = "SCRIPT";
        }
        return "VALUE " + element + " " + m.group(2) + " " + kind + " 0";
    }

    private static String[] tag(String context, String element) {
        String behind = List.of("TEXT", "SCRIPT 0", "STYLE 0", "TITLE").get(element.charAt(0) - '0');
        return new String[] {"[ \n]", context, ">", behind, element.equals("0") ? "/>" : "(?!)", "TEXT",
            "([a-z][a-z-]*+)[ \n]*+=[ \n]*+([\"'])", element,
            "[a-z][a-z-]*+(?:[ \n]++(?!=)|(?=[/>]))", context};
    }

    private static String[] value(String context, String[] c) {
        String quote = c[2];
        String stem = "VALUE " + c[1] + " " + quote + " " + c[3] + " ";
        String part = c[4];
        boolean mayEnd = part.equals("0") || c[3].equals("URL");
        String[] own = {mayEnd ? quote : "(?!)", "TAG " + c[1]};
        String[] more;
        if (c[3].equals("PLAIN")) {
            more = new String[] {AMPERSAND, context, "[^&]", context};
        } else if (c[3].equals("URL")) {
            String next = stem + (part.equals("0") ? "1" : part);
            more = new String[] {"[?#]", stem + "2", AMPERSAND, next, "%(?=[\\s\\S]{2})", next, "[^&%]", next};
        } else {
            more = code(c[3], stem, part, quote);
            for (int i = 0; i < more.length; i += 2) {
                more[i] = "(?![&" + quote + "])(?:" + more[i] + ")";
            }
        }
        String[] all = new String[2 + more.length];
        System.arraycopy(own, 0, all, 0, 2);
        System.arraycopy(more, 0, all, 2, more.length);
        return all;
    }

    private static String[] code(String language, String stem, String part, String valueQuote) {
        boolean inElement = valueQuote.isEmpty();
        String escaped = "\\\\[^<&" + valueQuote + "]";
        String less = inElement ? "<(?=[^/!])" : "<";
        String end = inElement ? "</" + language.toLowerCase() + ">" : "(?!)";
        String same = stem + part;
        switch (part) {
            case "0":
                if (language.equals("SCRIPT")) {
                    return new String[] {end, "TEXT", less, same, "'", stem + "1", "\"", stem + "2", "//", stem + "3",
                        "/\\*", stem + "4", "[^/`<]", same};
                }
                return new String[] {end, "TEXT", less, same, "'", stem + "1", "\"", stem + "2",
                    "/\\*", stem + "4", "/(?=[\\s\\S])", same, "[^/<]", same};
            case "1":
                return new String[] {"'", stem + "0", escaped, same, less, same, "[^\n<\\\\]", same};
            case "2":
                return new String[] {"\"", stem + "0", escaped, same, less, same, "[^\n<\\\\]", same};
            case "3":
                return new String[] {"\n", stem + "0", less, same, "[^<]", same};
            default:
                return new String[] {"\\*/", stem + "0", "\\*(?=[\\s\\S])", same, less, same, "[^*<]", same};
        }
    }

    /** Whether the writing has at most 1000 characters. */
    boolean write() {
        StringBuilder out = new StringBuilder();
        span(0, symbols.size(), items, out);
        writing = out.length() > 1000 ? "" : out.toString();
        return out.length() <= 1000;
    }

    private void span(int from, int to, List<List<String>> values, StringBuilder out) {
        for (int i = from; i < to && out.length() <= 1000; i++) {
            String symbol = symbols.get(i);
            if (isCharacter(symbol)) {
                out.append(symbol.charAt(0));
                continue;
            }
            int v = symbol.charAt(symbol.length() - 2) - 'a';
            List<String> has = values.get(v);
            String first = has.isEmpty() ? "" : has.get(0);
            if (symbol.length() == 3) {
                out.append(value(first, codes.get(i)));
                continue;
            }
            int otherwise = -1;
            int depth = 1;
            int close = i;
            while (depth > 0) {
                close++;
                String s = symbols.get(close);
                depth += s.length() == 4 ? 1 : s.equals("{/}") ? -1 : 0;
                otherwise = depth == 1 && s.equals("{:}") ? close : otherwise;
            }
            if (symbol.charAt(1) == '*') {
                for (String only : has) {
                    List<List<String>> inside = new ArrayList<>(values);
                    inside.set(v, List.of(only));
                    span(i + 1, close, inside, out);
                }
            } else if (!first.isEmpty()) {
                span(i + 1, otherwise < 0 ? close : otherwise, values, out);
            } else if (otherwise >= 0) {
                span(otherwise + 1, close, values, out);
            }
            i = close;
        }
    }

    private static String value(String item, int code) {
        if (code <= 1) {
            return item.replace("&", "&amp;").replace("<", "&lt;").replace(">", "&gt;").replace("\"", "&#34;")
                .replace("'", "&#39;");
        }
        if (code == 2 && item.matches("[^:/?#]*:[\\s\\S]*") && !item.matches("(?i)(http|https|mailto):[\\s\\S]*")) {
            return "#off";
        }
        if (code <= 3) {
            return escape(item, "[a-zA-Z0-9._~/:@!$*+,;=?#&-]", "%", "").replace("&", "&amp;");
        }
        if (code == 4) {
            return escape(item, "[a-zA-Z0-9._~-]", "%", "");
        }
        String kept = "[a-zA-Z0-9 .,_-]";
        switch (code) {
            case 8: return "\"" + escape(item, kept, "\\x", "") + "\"";
            case 24: return "&#34;" + escape(item, kept, "\\x", "") + "&#34;";
            case 9: case 10: case 25: case 26: return escape(item, kept, "\\x", "");
            case 12: case 28: return item.matches("[a-zA-Z0-9.%#-]+") ? item : "none";
            default: return escape(item, kept, "\\", " ");
        }
    }

    private static String escape(String item, String kept, String before, String behind) {
        StringBuilder b = new StringBuilder();
        Pattern keeps = PATTERNS.computeIfAbsent(kept, Pattern::compile);
        for (char c : item.toCharArray()) {
            String s = String.valueOf(c);
            b.append(keeps.matcher(s).matches() ? s : before + String.format("%02X", (int) c) + behind);
        }
        return b.toString();
    }
}
