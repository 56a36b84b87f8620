/** The document's sentences on texts, the log, the history and errors that name a boundary, one test each. */
final class TextBoundaries extends Answers {
    private static final String LONGEST = "a9999,".repeat(13) + "p7";
    private static final String LETTERS = "abcdefghijklmnop";
    private static final String DIGITS = "0123456789";

    static void all() {
        texts();
        faults();
        log();
        history();
        errors();
    }

    private static void sentence(String words) {
        sentence(0, words);
    }

    private static void texts() {
        atMost80Characters();
        oneOrMoreAccesses();
        lettersAToP();
        oneToFourDigits();
    }

    private static void atMost80Characters() {
        sentence("There is a text of at most 80 characters, empty at first.");
        ParoleCache x = new ParoleCache();
        due("empty", 0, x.count(15));
        due("empty", 0, x.clearText());
        for (int length = 1; length <= 80; length++) {
            due("typed", length, x.type('a'));
        }
        due("full", FULL, x.type('a'));
        due("full", 80, x.count(15));
        due("all of it", 80, x.clearText());
        due("from the beginning", 1, x.type('a'));
    }

    /** What run() answers to this text, on an object of its own. */
    private static int ran(String text) {
        ParoleCache x = new ParoleCache();
        typeAll(x, text);
        int answer = x.run();
        due("'" + text + "' stays", text.length(), x.count(15));
        due("states", answer > -100 ? 1 : 0, x.count(14));
        return answer;
    }

    private static void oneOrMoreAccesses() {
        sentence("A trace is one or more accesses with \",\" between two.");
        due("none", -100, ran(""));
        due("one", 0, ran("a1"));
        due("two", 1, ran("a1,b1"));
        due("the most", 26, ran("a0,".repeat(26) + "a0"));
        due("the longest", 12, ran(LONGEST));
        due("ahead of the first", -100, ran(",a1"));
        due("behind the last", -103, ran("a1,"));
        due("two commas", -103, ran("a1,,b1"));
        due("no comma", -102, ran("a1b1"));
        due("a space", -103, ran("a1, b1"));
    }

    /** Types each character behind this text: some end a trace, some are allowed but too early, and all others not. */
    private static void behind(String start, String ending, String goingOn) {
        int length = start.length();
        for (int c = 0; c <= 300; c++) {
            int want = goingOn.indexOf(c) >= 0 ? -100 - (length + 1) : ending.indexOf(c) >= 0 ? 0 : -100 - length;
            due("'" + start + "' and " + c, want, ran(start + (char) c));
        }
        for (char c : new char[] {0x660, 0x661, 0x430, 0xd835, 0xff10, 0xff41, 0xffff}) {
            due("'" + start + "' and " + (int) c, -100 - length, ran(start + c));
        }
    }

    private static void lettersAToP() {
        sentence("An access is the program as a letter from a to p");
        behind("", "", LETTERS);
        behind("a1,", "", LETTERS);
        behind("p9999,p0,", "", LETTERS);
        for (char letter = 'a'; letter <= 'p'; letter++) {
            ParoleCache x = new ParoleCache();
            typeAll(x, letter + "20");
            due("a miss", 0, x.run());
            due("its program", letter - 'a', x.logged(0, 0));
            due("its line", 20, x.logged(0, 1));
        }
    }

    private static void oneToFourDigits() {
        sentence("the line (one to four digits, without zeros in front unless it is the single digit 0)");
        behind("a", DIGITS, "");
        behind("a0", "", ",");
        behind("a1", DIGITS, ",");
        behind("a12", DIGITS, ",");
        behind("a100", DIGITS, ",");
        behind("a1234", "", ",");
        behind("p10,p", DIGITS, "");
        behind("p10,p0", "", ",");
        behind("p10,p999", DIGITS, ",");
        behind("p10,p9999", "", ",");
        for (int line : new int[] {0, 1, 9, 10, 90, 99, 100, 999, 1000, 9990, 9999}) {
            ParoleCache x = new ParoleCache();
            typeAll(x, "c" + line);
            due("a miss", 0, x.run());
            due("its line", line, x.logged(0, 1));
        }
    }

    private static void faults() {
        firstFault();
        endsTooEarly();
    }

    private static void firstFault() {
        sentence("The fault of the text is the index, from 0, of the first character that is not allowed at its place");
        due("the first", -100, ran("?"));
        due("the first of two", -100, ran("q01"));
        due("the second", -101, ran("a?b?"));
        due("before it ends too early", -102, ran("a01,"));
        for (int place = 0; place < 80; place++) {
            String text = LONGEST.substring(0, place) + '?' + LONGEST.substring(place + 1);
            due("in a full text", -100 - place, ran(text));
        }
    }

    private static void endsTooEarly() {
        sentence("or the length of the text if it ends too early (the empty text does)");
        due("empty", -100, ran(""));
        for (int length = 1; length <= 80; length++) {
            int behindComma = length % 6;
            int whole = (length - 1) / 6;
            int hits = whole == 0 ? 0 : behindComma == 5 ? whole : whole - 1;
            due("the beginning of a trace", behindComma < 2 ? -100 - length : hits, ran(LONGEST.substring(0, length)));
        }
        due("at the end of 80 characters", -180, ran("a10,".repeat(20)));
        due("the last one of 80 characters", -179, ran("a9999,".repeat(13) + "a,"));
    }

    private static void log() {
        sentence("The latest 12 accesses are known.");
        ParoleCache x = new ParoleCache();
        for (int number = 0; number <= 30; number++) {
            x.access(number % 16, 100 + number);
            int known = Math.min(12, number + 1);
            due("the latest", number, x.logged(0, 4));
            due("the oldest that is known", number + 1 - known, x.logged(known - 1, 4));
            due("its line", 100 + number + 1 - known, x.logged(known - 1, 1));
            for (int what = 0; what <= 4; what++) {
                due("no more", NONE, x.logged(known, what));
            }
        }
        x = new ParoleCache();
        x.walk(0, 500, 1, 30);
        due("a long walk", 29, x.logged(0, 4));
        due("its 12th from behind", 518, x.logged(11, 1));
        due("no 13th", NONE, x.logged(12, 1));
    }

    private static void history() {
        atMost4States();
        eachActIsRecorded();
        nothingElseIsRecorded();
        oneSnapshot();
        everythingButTheText();
        everythingOfTheHelpers();
    }

    private static void atMost4States() {
        sentence("A history of at most 4 states is kept; when one more is recorded, the oldest one is dropped");
        int[] trials = {1, 2, 4, 5, 6, 7};
        ParoleCache x = new ParoleCache();
        for (int i = 0; i < trials.length; i++) {
            due("before", i == 0 ? 3 : trials[i - 1], x.setTrial(trials[i]));
            due("states", Math.min(4, i + 1), x.count(14));
        }
        for (int left = 3; left >= 0; left--) {
            due("undo", left, x.undo());
            due("the latest one", trials[1 + left], x.count(11));
            due("states", left, x.count(14));
        }
        due("no more", NONE, x.undo());
        due("two were dropped", 2, x.count(11));
        x.setTrial(9);
        due("one again", 0, x.undo());
        due("the latest one", 2, x.count(11));
    }

    /** An object that a certain act is possible on, with less than 4 states. */
    private static ParoleCache readyFor(int act) {
        ParoleCache x = new ParoleCache();
        if (act >= 5) {
            x.addHelper(0, 1, 1);
        }
        if (act >= 6) {
            x.walk(0, 8, 1, 4);
        }
        if (act == 8) {
            x.flush();
        }
        typeAll(x, "a1,b2,a1");
        if (act == 4) {
            x.keep();
        }
        return x;
    }

    private static int act(ParoleCache x, int act) {
        switch (act) {
            case 0: return x.shape(1, 1);
            case 1: return x.addHelper(2, 4, 9);
            case 2: return x.setTrial(9);
            case 3: return x.run();
            case 4: return x.restore();
            case 5: return x.setDegree(0, 4);
            case 6: return x.flush();
            case 7: return x.forget(0);
            case 8: return x.pardon(0);
            case 9: return x.access(15, 9999);
            default: return x.walk(15, 9999, -1, 30);
        }
    }

    private static void eachActIsRecorded() {
        sentence("Each call of a method that is described as an act, and returns no error and not NONE, records");
        for (int act = 0; act <= 10; act++) {
            int number = act;
            ParoleCache x = readyFor(act);
            int states = x.count(14);
            due("act " + act + " returns no error and not NONE", 1, act(x, act) > -100 ? 1 : 0);
            due("act " + act + " records one state", states + 1, x.count(14));
            due("act " + act + " is undone", states, x.undo());
            same("act " + act + " undone", told(() -> readyFor(number)), () -> {
                ParoleCache y = readyFor(number);
                act(y, number);
                y.undo();
                return y;
            });
        }
    }

    private static void nothingElseIsRecorded() {
        sentence("records the state that was before it");
        ParoleCache x = new ParoleCache();
        x.setTrial(5);
        x.type('a');
        x.clearText();
        x.keep();
        x.bestHelper();
        x.wouldHit(0, 0, 1, 30);
        x.wouldAsk(0, 0, 0, 0);
        x.line(0, 0);
        x.inSet(0, 0);
        x.thrownOut(0);
        x.helper(0, 0);
        x.table(0, 0, 0);
        x.logged(0, 0);
        due("no acts", 1, x.count(14));
        x.setTrial(5);
        x.setTrial(0);
        x.shape(4, 2);
        x.shape(0, 0);
        x.flush();
        x.addHelper(3, 1, 1);
        x.setDegree(0, 1);
        x.pardon(0);
        x.forget(0);
        x.access(0, -1);
        x.walk(0, 0, -1, 2);
        x.run();
        due("errors and NONE", 1, x.count(14));
        due("undo", 0, x.undo());
        due("the state before the act", 3, x.count(11));
        due("undo is none", NONE, x.undo());
    }

    private static void oneSnapshot() {
        sentence("There is one snapshot, empty at first.");
        ParoleCache x = new ParoleCache();
        due("empty", NONE, x.restore());
        x.setTrial(1);
        x.undo();
        due("still empty", NONE, x.restore());
        x.setTrial(4);
        x.keep();
        x.setTrial(5);
        x.keep();
        x.setTrial(6);
        x.restore();
        due("the one that was kept last", 5, x.count(11));
        x.setTrial(7);
        x.restore();
        due("and again", 5, x.count(11));
    }

    private static void everythingButTheText() {
        sentence("A state is everything but the text, the history and the snapshot.");
        ParoleCache x = new ParoleCache();
        typeAll(x, "a1");
        x.keep();
        x.access(0, 1);
        x.keep();
        x.access(0, 2);
        typeAll(x, "a1,b2");
        x.undo();
        due("undo leaves the text", 5, x.count(15));
        x.undo();
        due("no access", 0, x.count(0));
        due("undo leaves the snapshot", 1, x.restore());
        due("restore leaves the text", 5, x.count(15));
        due("restore leaves the history, and is recorded", 1, x.count(14));
        x.access(0, 3);
        x.access(0, 4);
        due("restore", 1, x.restore());
        due("four states", 4, x.count(14));
        due("undo of restore", 3, x.undo());
        due("three accesses", 3, x.count(0));
        due("the snapshot stays", 1, x.restore());
        x = new ParoleCache();
        x.keep();
        typeAll(x, "c3");
        x.restore();
        due("the text stays", 0, x.run());
        due("it was run", 2, x.logged(0, 0));
    }

    /** One harm, two lines still to be used, and 20 and 21 in a cache of one set. */
    private static ParoleCache onProbationBehindHarm() {
        ParoleCache x = onProbation();
        x.access(0, 5);
        x.walk(0, 5, 0, 3);
        x.access(0, 20);
        x.access(0, 21);
        facts("on probation", x, 0, 2, 4, 1, 1, 0, 2, 1, 5, 2, 3, 0, 1, 5, 0, 0, 2);
        return x;
    }

    private static void everythingOfTheHelpers() {
        sentence("A state is everything but");
        same("restore", told(() -> onProbationBehindHarm()), () -> {
            ParoleCache x = onProbationBehindHarm();
            x.keep();
            x.access(0, 5);
            due("another harm", 2, x.helper(0, 11));
            x.setDegree(0, 2);
            x.pardon(0);
            x.walk(1, 100, 1, 20);
            x.restore();
            return x;
        });
        ParoleCache x = new ParoleCache();
        x.addHelper(2, 4, 9);
        x.keep();
        x.undo();
        due("no helper", UNKNOWN, x.helper(0, 0));
        x.restore();
        facts("the helper is there again", x, 0, 2, 4, 9, 0, 0, 0, 4);
        x.undo();
        due("no helper", 0, x.count(10));
        due("an act that restore() did not take back", 0, x.addHelper(0, 1, 1));
        facts("another helper", x, 0, 0, 1, 1, 0, 0, 0, 1);
        x.restore();
        facts("the helper of the snapshot in its place", x, 0, 2, 4, 9, 0, 0, 0, 4);
    }

    private static void errors() {
        theConstants();
        theOrderOfErrors();
        noneOnlyWithoutErrors();
        refusedCallsChangeNothing();
        refusedCallsOnTheEmptyAndTheFull();
    }

    private static void theConstants() {
        ParoleCache x = new ParoleCache();
        sentence("`UNKNOWN = -100001`: There is no such helper, set or line.");
        due("UNKNOWN", -100001, ParoleCache.UNKNOWN);
        due("no such helper", -100001, x.pardon(0));
        due("no such set", -100001, x.inSet(4, 0));
        due("no such line", -100001, x.line(10000, 0));
        sentence("`BAD_VALUE = -100002`: Another argument is out of range.");
        due("BAD_VALUE", -100002, ParoleCache.BAD_VALUE);
        due("another argument", -100002, x.access(0, 10000));
        sentence("`FULL = -100003`: There is no more room.");
        due("FULL", -100003, ParoleCache.FULL);
        typeAll(x, LONGEST);
        due("no more room", -100003, x.type(','));
        sentence("`NOT_POSSIBLE = -100004`: This is not possible.");
        due("NOT_POSSIBLE", -100004, ParoleCache.NOT_POSSIBLE);
        x.addHelper(2, 1, 1);
        due("not possible", -100004, x.forget(0));
        sentence("`NONE = -100005`: There is no such thing; not an error.");
        due("NONE", -100005, ParoleCache.NONE);
        due("no such thing", -100005, x.thrownOut(0));
    }

    private static void theOrderOfErrors() {
        sentence("Where several errors can apply, the order of the @return line is the order of the checks.");
        ParoleCache x = new ParoleCache();
        for (int i = 0; i < 6; i++) {
            x.addHelper(2 - i % 3, 1, 1);
        }
        due("BAD_VALUE, FULL", BAD, x.addHelper(3, 1, 1));
        due("BAD_VALUE, FULL", BAD, x.addHelper(0, 0, 1));
        due("BAD_VALUE, FULL", BAD, x.addHelper(0, 1, 10));
        for (int helper : outside(0, 5)) {
            due("UNKNOWN, BAD_VALUE", UNKNOWN, x.setDegree(helper, 0));
            due("UNKNOWN, BAD_VALUE", UNKNOWN, x.helper(helper, 16));
            due("UNKNOWN, BAD_VALUE", UNKNOWN, x.table(helper, -1, 4));
            due("UNKNOWN, BAD_VALUE", UNKNOWN, x.wouldAsk(helper, 16, 10000, -1));
            due("UNKNOWN, NOT_POSSIBLE", UNKNOWN, x.forget(helper));
        }
        due("UNKNOWN, BAD_VALUE", UNKNOWN, x.line(10000, 6));
        due("UNKNOWN, BAD_VALUE", UNKNOWN, x.line(-1, -1));
        due("UNKNOWN, BAD_VALUE", UNKNOWN, x.inSet(4, -1));
        due("UNKNOWN, BAD_VALUE", UNKNOWN, x.inSet(-1, -1));
    }

    private static void noneOnlyWithoutErrors() {
        sentence("NONE is no error; it is returned only if no error applies.");
        ParoleCache x = new ParoleCache();
        x.addHelper(2, 1, 1);
        x.addHelper(0, 1, 1);
        due("the sets as they are, wrong ways", BAD, x.shape(4, 5));
        due("the ways as they are, wrong sets", BAD, x.shape(9, 2));
        due("a helper without a table, but empty", NOT_POSSIBLE, x.forget(0));
        due("an empty set, a wrong place", BAD, x.inSet(0, -1));
        due("none thrown out, a wrong place", BAD, x.thrownOut(-1));
        due("no table, a wrong place", BAD, x.table(0, -1, 0));
        due("no table, a wrong what", BAD, x.table(0, 0, 4));
        due("no row, a wrong what", BAD, x.table(1, 3, -1));
        due("nothing asked for, a wrong program", BAD, x.wouldAsk(1, 16, 0, 0));
        due("nothing asked for, a wrong line", BAD, x.wouldAsk(1, 0, 10000, 9));
        due("nothing asked for, a wrong place", BAD, x.wouldAsk(1, 0, 0, -1));
        due("nothing logged, a wrong what", BAD, x.logged(0, 5));
        due("nothing logged, a wrong back", BAD, x.logged(-1, 0));
        due("not in the cache, a wrong what", BAD, x.line(7, 6));
    }

    /** Six helpers, one of them free, one with an empty table; a text with a fault; no snapshot; four states. */
    private static ParoleCache refusing() {
        ParoleCache x = busy();
        x.pardon(2);
        x.forget(0);
        typeAll(x, "a1,b2,");
        return x;
    }

    private static int[] refusals(ParoleCache x) {
        return new int[] {BAD, x.shape(0, 1), BAD, x.shape(9, 1), BAD, x.shape(1, 0), BAD, x.shape(1, 5),
            NONE, x.shape(2, 3), BAD, x.addHelper(3, 1, 1), FULL, x.addHelper(0, 1, 1), UNKNOWN, x.setDegree(6, 1),
            BAD, x.setDegree(0, 5), NONE, x.setDegree(0, 4), BAD, x.setTrial(0), BAD, x.setTrial(10),
            NONE, x.setTrial(3), UNKNOWN, x.pardon(6), NONE, x.pardon(2), UNKNOWN, x.forget(-1),
            NOT_POSSIBLE, x.forget(2), NONE, x.forget(0), BAD, x.access(16, 0), BAD, x.access(0, 10000),
            BAD, x.access(-1, 0), BAD, x.access(0, -1), BAD, x.walk(16, 0, 0, 1), BAD, x.walk(0, 10000, 0, 1),
            BAD, x.walk(0, 0, 1000, 1), BAD, x.walk(0, 0, 0, 0), BAD, x.walk(0, 0, 0, 31), BAD, x.walk(0, 5, -1, 7),
            BAD, x.walk(0, 9999, 1, 2), -106, x.run(), NONE, x.restore(), UNKNOWN, x.line(-1, 0), BAD, x.line(0, 6),
            NONE, x.line(9000, 2), UNKNOWN, x.inSet(2, 0), BAD, x.inSet(0, -1), NONE, x.inSet(0, 3),
            BAD, x.thrownOut(-1), NONE, x.thrownOut(8), UNKNOWN, x.helper(6, 0), BAD, x.helper(0, 16),
            UNKNOWN, x.table(6, 0, 0), BAD, x.table(0, -1, 0), NONE, x.table(2, 0, 0), UNKNOWN, x.wouldAsk(6, 0, 0, 0),
            BAD, x.wouldAsk(0, 16, 0, 0), NONE, x.wouldAsk(0, 0, 0, 9), BAD, x.wouldHit(0, 0, -1, 2),
            BAD, x.logged(-1, 0), NONE, x.logged(12, 0), BAD, x.count(17)};
    }

    private static void refusedCallsChangeNothing() {
        sentence("A call that returns an error or NONE changes nothing.");
        Maker refused = () -> {
            ParoleCache x = refusing();
            int[] answers = refusals(x);
            for (int i = 0; i + 1 < answers.length; i += 2) {
                due("refused call " + i / 2, answers[i], answers[i + 1]);
            }
            due("states", 4, x.count(14));
            due("the text", 6, x.count(15));
            return x;
        };
        same("refused calls", told(() -> refusing()), refused);
        for (int undone = 1; undone <= 4; undone++) {
            int times = undone;
            same("the history", told(() -> undone(refusing(), times)), () -> undone(refused.make(), times));
        }
    }

    private static ParoleCache undone(ParoleCache x, int times) {
        for (int left = 3; left > 3 - times; left--) {
            due("left", left, x.undo());
        }
        return x;
    }

    private static void refusedCallsOnTheEmptyAndTheFull() {
        sentence("returns an error or NONE");
        String empty = told(ParoleCache::new);
        same("calls on an empty object", empty, () -> {
            ParoleCache x = new ParoleCache();
            due("flush()", NONE, x.flush());
            due("undo()", NONE, x.undo());
            due("restore()", NONE, x.restore());
            due("run()", -100, x.run());
            due("bestHelper()", NONE, x.bestHelper());
            due("shape()", NONE, x.shape(4, 2));
            due("states", 0, x.count(14));
            return x;
        });
        ParoleCache x = new ParoleCache();
        typeAll(x, LONGEST);
        due("full", FULL, x.type(','));
        due("full", 80, x.count(15));
        due("the text is as it was", 12, x.run());
    }
}
