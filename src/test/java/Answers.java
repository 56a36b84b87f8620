import java.util.Arrays;

/** What the tests of the promises share: how answers are looked at, and a few caches to begin with. */
abstract class Answers {
    static final int UNKNOWN = -100001;
    static final int BAD = -100002;
    static final int FULL = -100003;
    static final int NOT_POSSIBLE = -100004;
    static final int NONE = -100005;
    static final int[] WRONG = {Integer.MIN_VALUE, -1, Integer.MAX_VALUE};

    static final Checks CHECKS = new Checks();
    private static Document document;
    private static int tests = 0;
    private static final int LOOKS_AT_ONE = 200;
    private static final int QUESTIONS = 17 + 6 * 16 + 6 * 16 + 12 * 5 + 8 * 3 + 8 * 4 * 3;

    /** A new object behind the same calls each time. */
    interface Maker {
        ParoleCache make();
    }

    /** Begins a test of a sentence of the document; the number 0 stands for what is ahead of the promises. */
    static void sentence(int promise, String words) {
        if (document == null) {
            document = new Document();
        }
        tests++;
        CHECKS.about((promise == 0 ? "" : "promise " + promise + ": ") + words);
        due("the document says so", 1, document.says(promise, words) ? 1 : 0);
    }

    /** Looks for sentences that name a boundary and have no test. */
    static void everySentenceHasATest(int first, int last) {
        CHECKS.about("each sentence that names a boundary has a test");
        for (String left : document.withoutTest(first, last)) {
            due("a test for '" + left + "'", 1, 0);
        }
        System.out.println(tests + " sentences, or parts of them, were tested");
    }

    static void due(String call, int want, int got) {
        CHECKS.due(call, want, got);
    }

    static void typeAll(ParoleCache x, String text) {
        x.clearText();
        for (int i = 0; i < text.length(); i++) {
            due("type " + i, i + 1, x.type(text.charAt(i)));
        }
    }

    static void counts(String where, ParoleCache x, int... wanted) {
        for (int i = 0; i < wanted.length; i++) {
            due(where + ": count(" + i + ")", wanted[i], x.count(i));
        }
    }

    static void facts(String where, ParoleCache x, int helper, int... wanted) {
        for (int i = 0; i < wanted.length; i++) {
            due(where + ": helper(" + helper + ", " + i + ")", wanted[i], x.helper(helper, i));
        }
    }

    static void row(String where, ParoleCache x, int helper, int place, int... wanted) {
        for (int i = 0; i < wanted.length; i++) {
            due(where + ": table(" + helper + ", " + place + ", " + i + ")", wanted[i], x.table(helper, place, i));
        }
    }

    static void set(String where, ParoleCache x, int set, int... lines) {
        for (int i = 0; i < lines.length; i++) {
            due(where + ": inSet(" + set + ", " + i + ")", lines[i], x.inSet(set, i));
        }
        due(where + ": inSet behind the last", NONE, x.inSet(set, lines.length));
    }

    static void thrown(String where, ParoleCache x, int... lines) {
        for (int i = 0; i < lines.length; i++) {
            due(where + ": thrownOut(" + i + ")", lines[i], x.thrownOut(i));
        }
        due(where + ": thrownOut behind the last", NONE, x.thrownOut(lines.length));
    }

    static ParoleCache shaped(int sets, int ways) {
        ParoleCache x = new ParoleCache();
        if (sets != 4 || ways != 2) {
            due("shape(" + sets + ", " + ways + ")", 0, x.shape(sets, ways));
        }
        return x;
    }

    /** Numbers just outside, far outside, and such that lie inside if bits of them are lost; no two are the same. */
    static int[] outside(int least, int greatest) {
        int[] numbers = {least - 1, greatest + 1, Integer.MIN_VALUE, Integer.MIN_VALUE + least, Integer.MAX_VALUE,
            (1 << 8) + greatest, (1 << 16) + greatest, (1 << 16) + least, -(1 << 16) + least, (1 << 30) + least,
            -greatest - 1, UNKNOWN, BAD, FULL, NOT_POSSIBLE, NONE};
        return Arrays.stream(numbers).filter(n -> n < least || n > greatest).distinct().toArray();
    }

    /** A call with one of its arguments left open. */
    interface Call {
        int answer(ParoleCache x, int argument);
    }

    /** Numbers outside the range are refused, and those within it are not; each on an object of its own. */
    static void range(int least, int greatest, int refusal, Maker maker, Call call) {
        for (int wrong : outside(least, greatest)) {
            due("argument " + wrong, refusal, call.answer(maker.make(), wrong));
        }
        for (int right = least; right <= greatest; right++) {
            due("argument " + right + " is refused", 0, call.answer(maker.make(), right) == refusal ? 1 : 0);
        }
    }

    /** As many helpers as there can be: all other numbers are unknown. */
    static void helperNumbers(Call call) {
        for (int helpers = 0; helpers <= 6; helpers++) {
            int number = helpers;
            range(0, helpers - 1, UNKNOWN, () -> {
                ParoleCache x = new ParoleCache();
                for (int i = 0; i < number; i++) {
                    x.addHelper(i % 3, 1, 1);
                }
                return x;
            }, call);
        }
    }

    /** One set of 2 ways; a helper of the kind 2 (degree 4, price 1) with 2 hours; 8 and 9 are in, and new. */
    static ParoleCache atWork() {
        ParoleCache x = new ParoleCache();
        x.shape(1, 2);
        x.addHelper(2, 4, 1);
        x.access(0, 5);
        return x;
    }

    /** The same helper on probation with 3 lines to go; 8, which is new, and 9 are in. */
    static ParoleCache onProbation() {
        ParoleCache x = atWork();
        x.access(0, 9);
        x.access(0, 9);
        return x;
    }

    /**
     * All that is told of the state, and so neither of the text nor of the history. An object is for 512 calls, so
     * another one is made whenever this one has been asked enough.
     */
    static String told(Maker maker) {
        StringBuilder all = new StringBuilder();
        ParoleCache x = maker.make();
        for (int question = 0; question < QUESTIONS; question++) {
            if (question % LOOKS_AT_ONE == LOOKS_AT_ONE - 1) {
                x = maker.make();
            }
            all.append(answer(x, question)).append(' ');
        }
        return all.toString();
    }

    private static int answer(ParoleCache x, int question) {
        int q = question;
        if (q < 17) {
            return q == 14 || q == 15 ? 0 : x.count(q);
        }
        q -= 17;
        if (q < 6 * 16) {
            return x.helper(q / 16, q % 16);
        }
        q -= 6 * 16;
        if (q < 6 * 16) {
            return x.table(q / 16, q % 16 / 4, q % 4);
        }
        q -= 6 * 16;
        if (q < 12 * 5) {
            return x.logged(q / 5, q % 5);
        }
        q -= 12 * 5;
        if (q < 8 * 3) {
            return q % 3 == 0 ? x.thrownOut(q / 3) : x.line(x.thrownOut(q / 3), 3 + q % 3);
        }
        q -= 8 * 3;
        int line = x.inSet(q / 12, q % 12 / 3);
        return q % 3 == 0 ? line : x.line(line, q % 3);
    }

    static void same(String where, String before, Maker maker) {
        due(where + " leaves or brings back all", 1, before.equals(told(maker)) ? 1 : 0);
    }

    /** Six helpers of all kinds, some at work, some on probation, with all kinds of facts. */
    static ParoleCache busy() {
        ParoleCache x = new ParoleCache();
        x.shape(2, 3);
        for (int i = 0; i < 6; i++) {
            x.addHelper(i % 3, 4 - i / 2, 1 + i);
        }
        x.walk(1, 100, 1, 12);
        x.walk(2, 300, -2, 20);
        x.pardon(2);
        x.pardon(3);
        x.walk(3, 40, 3, 9);
        return x;
    }
}
