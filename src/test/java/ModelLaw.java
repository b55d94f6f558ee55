import java.util.ArrayList;
import java.util.List;

/** The law's text cut into ever smaller texts at its weakest signs; faults by trying what may follow. */
final class ModelLaw {
    private static final String[] ENDS = {"", "1"};
    private static final String[] SIGNS = {"|", "&", "<=>", "+-", "*/%"};

    /** The longest beginning that some text begins with; -1 for a text. */
    static int fault(String text) {
        if (isText(text)) return -1;
        for (int n = 1; n <= text.length(); n++) {
            if (!goesOn(text.substring(0, n))) return n - 1;
        }
        return text.length();
    }

    private static boolean goesOn(String beginning) {
        for (String end : ENDS) {
            for (int n = 0; n <= 6; n++) {
                if (isText(beginning + end + ")".repeat(n))) return true;
            }
        }
        return false;
    }

    private static boolean isText(String text) {
        for (String line : cut(text, ";", 0)) {
            List<String> es = cut(line, "?", 0);
            if (es.size() > 2) return false;
            for (String e : es) {
                if (!isE(e, 0, 0)) return false;
            }
        }
        return true;
    }

    static int value(String text, int[] names) {
        for (String line : cut(text, ";", 0)) {
            List<String> es = cut(line, "?", 0);
            if (es.size() == 1) return work(es.get(0), names, 0);
            if (work(es.get(0), names, 0) != 0) return work(es.get(1), names, 0);
        }
        return 0;
    }

    /** Cuts at signs outside of brackets that stand behind an operand. */
    private static List<String> cut(String text, String signs, int unused) {
        List<String> pieces = new ArrayList<>();
        int open = 0, from = 0;
        for (int i = 0; i < text.length(); i++) {
            char c = text.charAt(i);
            if (c == '(') open++;
            if (c == ')') open--;
            boolean behind = i > 0 && "duswhk0123456789)".indexOf(text.charAt(i - 1)) >= 0;
            if (open == 0 && signs.indexOf(c) >= 0 && (behind || c != '-')) {
                pieces.add(text.substring(from, i));
                from = i + 1;
            }
        }
        pieces.add(text.substring(from));
        return pieces;
    }

    private static boolean isE(String e, int level, int open) {
        if (level == 5) return isO(e, open);
        List<String> pieces = cut(e, SIGNS[level], 0);
        if (level == 2 && pieces.size() > 2) return false;
        for (String piece : pieces) {
            if (!isE(piece, level + 1, open)) return false;
        }
        return true;
    }

    private static boolean isO(String o, int open) {
        if (o.matches("[0-9]{1,4}|[duswhk]")) return true;
        if (o.isEmpty() || open == 6) return false;
        char c = o.charAt(0);
        if (c == '!' || c == '-') return isO(o.substring(1), open + 1);
        if (c != '(' || o.charAt(o.length() - 1) != ')' || o.length() < 2) return false;
        return isE(o.substring(1, o.length() - 1), 0, open + 1);
    }

    private static int work(String e, int[] names, int level) {
        if (level == 5) return operand(e, names);
        List<String> pieces = cut(e, SIGNS[level], 0);
        int at = pieces.get(0).length(), v = work(pieces.get(0), names, level + 1);
        for (int i = 1; i < pieces.size(); i++) {
            int b = work(pieces.get(i), names, level + 1);
            v = join(e.charAt(at), v, b);
            at += pieces.get(i).length() + 1;
        }
        return v;
    }

    private static int operand(String o, int[] names) {
        char c = o.charAt(0);
        if (c == '!') return operand(o.substring(1), names) == 0 ? 1 : 0;
        if (c == '-') return -operand(o.substring(1), names);
        if (c == '(') return work(o.substring(1, o.length() - 1), names, 0);
        int name = "duswhk".indexOf(c);
        return name >= 0 ? names[name] : Integer.parseInt(o);
    }

    private static int join(char sign, int a, int b) {
        return switch (sign) {
            case '|' -> a != 0 || b != 0 ? 1 : 0;
            case '&' -> a != 0 && b != 0 ? 1 : 0;
            case '<' -> a < b ? 1 : 0;
            case '=' -> a == b ? 1 : 0;
            case '>' -> a > b ? 1 : 0;
            case '+' -> a + b;
            case '-' -> a - b;
            case '*' -> a * b;
            case '/' -> b == 0 ? 0 : a / b;
            default -> b == 0 ? 0 : a % b;
        };
    }
}
