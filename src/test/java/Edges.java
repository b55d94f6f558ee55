import java.util.ArrayList;
import java.util.List;

/** Tests by the document's words: each quotes the words that it tests, and words that no test quotes are told. */
final class Edges {
    static final int HEAD = -1, TERMS = 0;

    private final String doc;
    private final boolean[] quoted;
    private int wrong = 0, passed = 0;
    private String where = "";

    Edges(String text) {
        doc = text.replaceAll("\\s+", " ");
        quoted = new boolean[doc.length()];
    }

    /** The words of a promise (or TERMS, HEAD), and what must be so by them. */
    void told(int promise, String words, Runnable test) {
        where = (promise == TERMS ? "terms" : promise == HEAD ? "head" : "promise " + promise) + ": " + words;
        int from = from(promise), at = doc.indexOf(words, from), end = at + words.length(), before = passed + wrong;
        due("the words stand there", at >= from && end <= end(promise) ? 1 : 0, 1);
        for (int i = at; at >= 0 && i < end; i++) quoted[i] = true;
        test.run();
        if (passed + wrong < before + 2) due("calls that were tested", 0, 1);
    }

    private int from(int promise) {
        if (promise == HEAD) return 0;
        return doc.indexOf(promise == TERMS ? "## Terms" : "## Promise " + promise + ": ");
    }

    private int end(int promise) {
        if (promise == HEAD) return from(TERMS);
        return promise == 41 ? doc.indexOf("## Not promised") : from(promise + 1);
    }

    void due(String what, long got, long want) {
        if (got == want) {
            passed++;
            return;
        }
        wrong++;
        System.out.println("«" + where + "» " + what + " answered " + got + ", due is " + want);
    }

    /** All answers of a call by its last argument, from one number on. */
    void each(String what, int from, java.util.function.IntUnaryOperator call, int... want) {
        for (int i = 0; i < want.length; i++) due(what + " " + (from + i), call.applyAsInt(from + i), want[i]);
    }

    /** A call by its shelf. */
    interface ByShelf {
        int answer(SetAgain x, int shelf);
    }

    /** What a call that wants a row of bytes answers of no shelf, of nothing, of all else that a shelf can hold. */
    void refused(ByShelf call, int bad, int nothing, int other) {
        SetAgain x = Made.with(20, 6, 50, 2);
        x.body(0);
        x.keep(1, 0);
        for (int sort = 1; sort <= 4; sort++) x.row(1 + sort, sort, sort * 5);
        due("of shelf -1", call.answer(x, -1), bad);
        due("of shelf 6", call.answer(x, 6), bad);
        due("of nothing", call.answer(x, 0), nothing);
        due("of a desk", call.answer(x, 1), other);
        for (int sort = 1; sort <= 4; sort++) due("of a row of sort " + sort, call.answer(x, 1 + sort), other);
        x.row(2, 4, 0);
        due("of no booleans", call.answer(x, 2), other);
    }

    /** The same by the answers that most calls give. */
    void refused(ByShelf call) {
        refused(call, -1, -11, -12);
    }

    /** Words of the terms and promises that no test quotes; headings and what the interface says are none. */
    private List<String> unquoted() {
        List<String> left = new ArrayList<>();
        String[] aside = {"## Terms", "## Promise \\d+: \\w[\\w ]*?(?= `)", "={8} \\d", "```text", "```",
            "Ahead of the calls .*? says: ---- [^.]*\\.", "`[a-z]\\w* \\w+\\([^)]*\\)`:", "`SetAgain\\(\\)`:"};
        boolean[] named = quoted.clone();
        for (String words : aside) {
            java.util.regex.Matcher m = java.util.regex.Pattern.compile(words).matcher(doc);
            while (m.find()) java.util.Arrays.fill(named, m.start(), m.end(), true);
        }
        StringBuilder run = new StringBuilder();
        for (int i = from(TERMS); i <= end(41); i++) {
            boolean open = i < end(41) && !named[i];
            if (open) run.append(doc.charAt(i));
            if (!open && run.toString().matches(".*\\w.*")) left.add(run.toString().trim());
            if (!open) run.setLength(0);
        }
        return left;
    }

    /** Whether all was so. */
    boolean ended() {
        for (String words : unquoted()) {
            wrong++;
            System.out.println("no test quotes «" + words + "»");
        }
        System.out.println("EdgesTest: " + passed + " passed, " + wrong + " failed");
        return wrong == 0;
    }
}
