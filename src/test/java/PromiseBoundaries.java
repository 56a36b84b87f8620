/** What the promises themselves say of boundaries: the ranges of their arguments, and their least and greatest answers. */
final class PromiseBoundaries extends Answers {
    private static final String LONGEST = "a9999,".repeat(13) + "p7";

    static void all() {
        newObject();
        shape();
        flush();
        addHelper();
        setDegree();
        setTrial();
        pardon();
        forget();
        access();
        walk();
        type();
        clearText();
        run();
        undo();
        keep();
        restore();
        line();
        linePlaces();
        inSet();
        thrownOut();
        helper();
        helperAnswers();
        table();
        wouldAsk();
        wouldHit();
        bestHelper();
        logged();
        count();
        countAnswers();
    }

    /** 8 sets and 4 ways, all full: the lines 0 to 31. */
    private static ParoleCache fullCache() {
        ParoleCache x = shaped(8, 4);
        x.walk(0, 0, 1, 30);
        x.walk(0, 30, 1, 2);
        return x;
    }

    /** Four programs, three streams, and a helper of the kind 2, which has no table; nothing is fetched ahead. */
    private static ParoleCache fullTables() {
        ParoleCache x = new ParoleCache();
        x.addHelper(0, 1, 1);
        x.addHelper(1, 1, 1);
        x.addHelper(2, 1, 1);
        x.access(0, 9999);
        for (int program = 1; program < 5; program++) {
            x.access(program, 9999 - 5 * program);
        }
        return x;
    }

    private static void newObject() {
        sentence(1, "Creates an empty cache of 4 sets and 2 ways, without helpers.");
        ParoleCache x = new ParoleCache();
        counts("new", x, 0, 0, 0, 0, 0, 0, 4, 2, 0, 0, 0, 3, 0, 0, 0, 0, 0);
        for (int set = 0; set < 4; set++) {
            due("an empty set", NONE, x.inSet(set, 0));
        }
        due("no fifth set", UNKNOWN, x.inSet(4, 0));
        due("no helper", UNKNOWN, x.helper(0, 0));
        due("no thrown-out line", NONE, x.thrownOut(0));
        due("no access", NONE, x.logged(0, 0));
        due("no state", NONE, x.undo());
        due("no snapshot", NONE, x.restore());
        due("no text", 0, x.clearText());
        range(0, 9999, 1, ParoleCache::new, (y, line) -> line < 0 || line > 9999 ? 1 : y.line(line, 0));
    }

    private static void shape() {
        sentence(2, "`sets`: 1 to 8");
        range(1, 8, BAD, ParoleCache::new, (x, sets) -> x.shape(sets, 3));
        range(1, 8, BAD, ParoleCache::new, (x, sets) -> x.shape(sets, 2));
        sentence(2, "`ways`: 1 to 4");
        range(1, 4, BAD, ParoleCache::new, (x, ways) -> x.shape(3, ways));
        range(1, 4, BAD, ParoleCache::new, (x, ways) -> x.shape(4, ways));
        sentence(2, "Returns how many lines were in the cache; BAD_VALUE; NONE if it has this shape already.");
        due("the first shape", NONE, new ParoleCache().shape(4, 2));
        due("no lines", 0, new ParoleCache().shape(4, 1));
        due("all lines there can be", 32, fullCache().shape(1, 1));
        ParoleCache x = fullCache();
        due("as it is", NONE, x.shape(8, 4));
        due("nothing is thrown out", 32, x.count(8));
        due("other ways", 32, x.shape(8, 3));
        due("back", 0, x.shape(8, 4));
        due("other sets", 0, x.shape(7, 4));
        due("as it is", NONE, x.shape(7, 4));
        sentence(2, "All lines are thrown out first, as by flush(); thrown-out lines are forgotten then.");
        x = fullCache();
        x.access(0, 32);
        due("one is known", 1, x.count(13));
        due("all", 32, x.shape(1, 4));
        due("they count", 33, x.count(5));
        due("none is known", 0, x.count(13));
        due("none is known", NONE, x.line(31, 4));
        x = shaped(1, 1);
        x.addHelper(2, 1, 9);
        x.walk(0, 5, 1, 2);
        due("by the helper", 0, x.line(5, 5));
        x.shape(1, 2);
        x.access(0, 5);
        due("forgotten, and so no harm", 0, x.helper(0, 11));
    }

    private static void flush() {
        sentence(3, "set by set from the set 0 on, in each set from the oldest one on, as if a program did it");
        ParoleCache x = shaped(2, 4);
        x.walk(0, 7, -1, 8);
        x.access(0, 6);
        due("all", 8, x.flush());
        thrown("in this order", x, 4, 2, 0, 6, 7, 5, 3, 1);
        due("by a program", NONE, x.line(4, 5));
        x = fullCache();
        x.flush();
        thrown("the latest 8 of 32", x, 6, 14, 22, 30, 7, 15, 23, 31);
        sentence(3, "Returns how many lines are thrown out; NONE if the cache is empty.");
        due("empty at first", NONE, new ParoleCache().flush());
        x = new ParoleCache();
        x.access(0, 9999);
        due("one", 1, x.flush());
        due("empty", NONE, x.flush());
        x = fullCache();
        due("all there can be", 32, x.flush());
        due("empty", NONE, x.flush());
        due("undone, one of four", 3, x.undo());
        due("all", 32, x.shape(4, 4));
        due("emptied by another shape", NONE, x.flush());
    }

    private static void addHelper() {
        sentence(4, "`kind`: 0 to 2");
        range(0, 2, BAD, ParoleCache::new, (x, kind) -> x.addHelper(kind, 1, 1));
        sentence(4, "`degree`: 1 to 4");
        range(1, 4, BAD, ParoleCache::new, (x, degree) -> x.addHelper(0, degree, 1));
        sentence(4, "`price`: 1 to 9");
        range(1, 9, BAD, ParoleCache::new, (x, price) -> x.addHelper(0, 1, price));
        sentence(4, "Returns its number; BAD_VALUE; FULL if there are 6.");
        ParoleCache x = new ParoleCache();
        x.keep();
        for (int number = 0; number < 6; number++) {
            due("its number", number, x.addHelper(2 - number % 3, 4, 9));
            facts("as it was made", x, number, 2 - number % 3, 4, 9, 0, 0, 0, 4, 0, 0, 0, 0, 0, 0, 0, 0, 0);
        }
        due("a seventh", FULL, x.addHelper(0, 1, 1));
        due("a wrong seventh", BAD, x.addHelper(0, 1, 10));
        due("six", 6, x.count(10));
        due("undone", 3, x.undo());
        due("the sixth again", 5, x.addHelper(1, 2, 3));
        facts("not the one that was", x, 5, 1, 2, 3);
        x.restore();
        due("none", 0, x.count(10));
        due("the first again", 0, x.addHelper(1, 1, 1));
    }

    private static void setDegree() {
        sentence(5, "`helper`: a helper");
        helperNumbers((x, helper) -> x.setDegree(helper, 3));
        sentence(5, "`degree`: 1 to 4");
        range(1, 4, BAD, PromiseBoundaries::fullTables, (x, degree) -> x.setDegree(2, degree));
        sentence(5, "Returns the previous one; UNKNOWN; BAD_VALUE; NONE if it is so already.");
        for (int was = 1; was <= 4; was++) {
            for (int then = 1; then <= 4; then++) {
                ParoleCache x = new ParoleCache();
                x.addHelper(1, was, 1);
                due(was + " to " + then, was == then ? NONE : was, x.setDegree(0, then));
                due("it is so", then, x.helper(0, 1));
                due("the reach", then, x.helper(0, 6));
                due("now it is so already", NONE, x.setDegree(0, then));
            }
        }
    }

    private static void setTrial() {
        sentence(6, "`lines`: 1 to 9");
        range(1, 9, BAD, ParoleCache::new, (x, lines) -> x.setTrial(lines));
        sentence(6, "Returns the previous one; BAD_VALUE; NONE if it is so already.");
        due("at first", NONE, new ParoleCache().setTrial(3));
        for (int was = 1; was <= 9; was++) {
            for (int then = 1; then <= 9; then++) {
                ParoleCache x = new ParoleCache();
                x.setTrial(was);
                due(was + " to " + then, was == then ? NONE : was, x.setTrial(then));
                due("it is so", then, x.count(11));
                due("now it is so already", NONE, x.setTrial(then));
            }
        }
        sentence(6, "Sets the trial; helpers on probation keep their numbers.");
        ParoleCache x = onProbation();
        x.setTrial(1);
        due("the least, three left", 3, x.helper(0, 5));
        x.setTrial(9);
        due("the greatest, three left", 3, x.helper(0, 5));
        x.access(0, 8);
        due("two left", 2, x.helper(0, 5));
        due("on probation", 1, x.helper(0, 3));
    }

    private static void pardon() {
        sentence(7, "`helper`: a helper");
        helperNumbers((x, helper) -> x.pardon(helper));
        sentence(7, "Returns the hours that it had; UNKNOWN; NONE if it is free.");
        ParoleCache x = shaped(8, 4);
        x.addHelper(2, 4, 9);
        due("free at first", NONE, x.pardon(0));
        x.access(0, 0);
        x.flush();
        due("36", 36, x.pardon(0));
        due("free", NONE, x.pardon(0));
        x = onProbation();
        due("on probation, no hours", 0, x.pardon(0));
        due("free", NONE, x.pardon(0));
        x = atWork();
        x.setTrial(1);
        x.walk(0, 9, -1, 2);
        due("free by its trial", NONE, x.pardon(0));
        sentence(7, "Pardons a helper: its hours are 0, and it is free.");
        x = atWork();
        x.access(0, 9);
        due("the last hour", 1, x.pardon(0));
        facts("free", x, 0, 2, 4, 1, 0, 0, 0, 4);
        x = onProbation();
        x.pardon(0);
        facts("free", x, 0, 2, 4, 1, 0, 0, 0, 4);
        sentence(7, "Hours that it had are counted as pardoned.");
        x = shaped(8, 4);
        x.addHelper(2, 4, 9);
        for (int time = 1; time <= 5; time++) {
            x.access(0, 100 * time);
            x.flush();
            due("36", 36, x.pardon(0));
            due("in all", 36 * time, x.helper(0, 13));
        }
        due("none worked", 0, x.helper(0, 12));
        x = onProbation();
        x.pardon(0);
        due("none pardoned", 0, x.helper(0, 13));
        due("two worked", 2, x.helper(0, 12));
    }

    private static void forget() {
        sentence(8, "`helper`: a helper");
        helperNumbers((x, helper) -> x.forget(helper));
        sentence(8, "Returns how many programs or streams were in it; UNKNOWN; NOT_POSSIBLE if it is of the kind 2; NONE");
        for (int accesses = 0; accesses <= 5; accesses++) {
            ParoleCache x = new ParoleCache();
            x.addHelper(0, 1, 1);
            x.addHelper(1, 1, 1);
            x.addHelper(2, 1, 1);
            for (int i = 0; i < accesses; i++) {
                x.access(i, 5 * i);
            }
            due("programs", accesses == 0 ? NONE : Math.min(4, accesses), x.forget(0));
            due("streams", accesses == 0 ? NONE : Math.min(3, accesses), x.forget(1));
            due("kind 2", NOT_POSSIBLE, x.forget(2));
            due("empty now", NONE, x.forget(0));
            due("empty now", NONE, x.forget(1));
            due("empty", 0, x.helper(0, 14) + x.helper(1, 14));
            x.access(9, 5000);
            due("one program", 1, x.forget(0));
            due("one stream", 1, x.forget(1));
        }
    }

    private static void access() {
        sentence(9, "`program`: 0 to 15");
        range(0, 15, BAD, ParoleCache::new, (x, program) -> x.access(program, 0));
        sentence(9, "`line`: 0 to 9999");
        range(0, 9999, BAD, ParoleCache::new, (x, line) -> x.access(0, line));
        sentence(9, "Returns 1 if it is a hit of a line that was not new, 2 if of one that was new, 0 if it is a miss;");
        ParoleCache x = shaped(8, 4);
        x.addHelper(2, 1, 1);
        due("a miss", 0, x.access(0, 9998));
        due("of a new one", 2, x.access(15, 9999));
        due("not new any more", 1, x.access(0, 9999));
        due("never new", 1, x.access(0, 9998));
        x.flush();
        due("a miss again", 0, x.access(0, 9999));
    }

    private static void walk() {
        sentence(10, "`program`: 0 to 15");
        range(0, 15, BAD, ParoleCache::new, (x, program) -> x.walk(program, 0, 0, 1));
        sentence(10, "`line`: 0 to 9999: the first line");
        range(0, 9999, BAD, ParoleCache::new, (x, line) -> x.walk(0, line, 999, 1));
        range(0, 9999, BAD, ParoleCache::new, (x, line) -> x.walk(0, line, 0, 2));
        sentence(10, "`stride`: -999 to 999: by how much each next line is greater");
        range(-999, 999, BAD, ParoleCache::new, (x, stride) -> x.walk(0, 5000, stride, 2));
        range(-999, 999, BAD, ParoleCache::new, (x, stride) -> x.walk(0, 0, stride, 1));
        sentence(10, "`count`: 1 to 30");
        range(1, 30, BAD, ParoleCache::new, (x, count) -> x.walk(0, 9999, 0, count));
        range(1, 30, BAD, ParoleCache::new, (x, count) -> x.walk(0, 0, 300, count));
        sentence(10, "BAD_VALUE (also if any line would not be from 0 to 9999)");
        for (int stride = 1; stride <= 999; stride++) {
            int lines = 9999 / stride + 1;
            ends(stride, lines, 0, 9999);
            ends(-stride, lines, 9999, 0);
        }
        due("one too far", BAD, new ParoleCache().walk(0, 1, 999, 12));
        due("just not", 0, new ParoleCache().walk(0, 9, 999, 11));
        due("one too far", BAD, new ParoleCache().walk(0, 10, 999, 11));
        sentence(10, "Returns how many hits there are");
        due("the same line", 29, new ParoleCache().walk(0, 0, 0, 30));
        due("no line twice", 0, new ParoleCache().walk(0, 0, 1, 30));
        ParoleCache x = fullCache();
        due("all", 30, x.walk(0, 31, -1, 30));
        due("one more access each", 62, x.count(0));
    }

    /** A walk from one end to the other goes as far as there are lines; a step more is refused, and does nothing. */
    private static void ends(int stride, int lines, int first, int end) {
        ParoleCache x = new ParoleCache();
        if (lines < 30) {
            due("by " + stride + ", too far", BAD, x.walk(0, first, stride, lines + 1));
            due("no access", 0, x.count(0));
        }
        int count = Math.min(30, lines);
        due("by " + stride, 0, x.walk(0, first, stride, count));
        due("the last line", first + stride * (count - 1), x.logged(0, 1));
        due("by " + stride + " from the other end", BAD, x.walk(0, end, stride, 2));
    }

    private static void type() {
        sentence(11, "`character`: any character");
        ParoleCache x = new ParoleCache();
        for (int c = 0; c <= 0xffff; c++) {
            if (c % 80 == 0) {
                x = new ParoleCache();
            }
            due("character " + c, c % 80 + 1, x.type((char) c));
        }
        sentence(11, "Returns the length of the text then; FULL if it has 80 characters.");
        x = new ParoleCache();
        typeAll(x, LONGEST.substring(1));
        due("79", 79, x.count(15));
        due("the 80th", 80, x.type(' '));
        for (char c : new char[] {0, ',', '0', 'a', 0xffff}) {
            due("an 81st", FULL, x.type(c));
        }
        due("80", 80, x.count(15));
        due("no act", 0, x.count(14));
    }

    private static void clearText() {
        sentence(12, "Returns the length that it had.");
        ParoleCache x = new ParoleCache();
        due("none", 0, x.clearText());
        for (int length : new int[] {1, 2, 79, 80}) {
            typeAll(x, LONGEST.substring(0, length));
            due("its length", length, x.clearText());
            due("none", 0, x.count(15));
            due("none", 0, x.clearText());
        }
        typeAll(x, LONGEST);
        due("full", FULL, x.type(','));
        due("80", 80, x.clearText());
        due("room again", 1, x.type('c'));
        due("what was is gone", -101, x.run());
    }

    private static void run() {
        sentence(13, "Returns how many hits there are; -100 minus the fault of the text if it has one (which is an error).");
        ParoleCache x = new ParoleCache();
        due("empty", -100, x.run());
        typeAll(x, "a10,".repeat(20));
        due("at the end of 80", -180, x.run());
        due("an error is no act", 0, x.count(14));
        due("an error does nothing", 0, x.count(0));
        typeAll(x, "a0,".repeat(26) + "a0");
        due("all but the first", 26, x.run());
        due("all", 27, x.run());
        due("two acts", 2, x.count(14));
        due("which stays", 80, x.count(15));
        typeAll(x, "p9999");
        due("no hit", 0, x.run());
        sentence(13, "Does the accesses of the text, which stays, in their order.");
        due("which stays", 5, x.count(15));
        due("and again", 1, x.run());
        typeAll(x, "p9999,a10000");
        due("the fault is behind the first access", -111, x.run());
        due("which is not done", 56, x.count(0));
        typeAll(x, LONGEST);
        due("the longest text, and 9999 is in", 13, x.run());
        due("the last access", 7, x.logged(0, 1));
        due("the last but one", 9999, x.logged(1, 1));
        due("14 accesses", 70, x.count(0));
    }

    private static void undo() {
        sentence(14, "Removes and restores the latest state of the history.");
        ParoleCache y = new ParoleCache();
        y.setTrial(9);
        y.setTrial(1);
        y.undo();
        due("the latest one", 9, y.count(11));
        y.undo();
        due("it was removed", 3, y.count(11));
        sentence(14, "Returns the number of states that are left; NONE if the history is empty.");
        ParoleCache x = new ParoleCache();
        due("empty at first", NONE, x.undo());
        for (int acts = 1; acts <= 7; acts++) {
            x = new ParoleCache();
            for (int act = 0; act < acts; act++) {
                x.access(0, act);
            }
            for (int left = Math.min(4, acts) - 1; left >= 0; left--) {
                due("left", left, x.undo());
                due("accesses", acts - Math.min(4, acts) + left, x.count(0));
            }
            due("empty", NONE, x.undo());
            due("nothing changes", Math.max(0, acts - 4), x.count(0));
        }
    }

    private static void keep() {
        sentence(15, "Takes a snapshot of the state, in place of the one that was.");
        ParoleCache x = new ParoleCache();
        due("no access", 0, x.keep());
        for (int accesses = 30; accesses <= 300; accesses += 30) {
            x.walk(0, 0, 0, 30);
            due("accesses", accesses, x.keep());
        }
        due("no act", 4, x.count(14));
        x.undo();
        due("the latest snapshot", 300, x.restore());
        x.undo();
        due("as before", 270, x.keep());
        x.walk(0, 0, 0, 30);
        due("the latest snapshot", 270, x.restore());
    }

    private static void restore() {
        sentence(16, "Restores the state of the snapshot, which stays.");
        ParoleCache x = new ParoleCache();
        x.access(0, 7);
        x.keep();
        for (int time = 1; time <= 6; time++) {
            x.shape(time, 1);
            x.access(0, 8);
            due("restored", 1, x.restore());
            due("sets", 4, x.count(6));
            due("7", 1, x.line(7, 0));
            due("not 8", 0, x.line(8, 0));
        }
        sentence(16, "Returns the number of accesses then; NONE if there is no snapshot.");
        x = new ParoleCache();
        due("none", NONE, x.restore());
        x.access(0, 1);
        due("none", NONE, x.restore());
        due("nothing changes", 1, x.count(0));
        x.undo();
        due("none accessed", 0, x.keep());
        x.walk(0, 0, 1, 30);
        due("none accessed", 0, x.restore());
        due("none accessed", 0, x.restore());
        due("both are acts", 3, x.count(14));
        due("undone", 2, x.undo());
        due("undone", 1, x.undo());
        due("thirty accessed", 30, x.count(0));
    }

    private static void line() {
        sentence(17, "`line`: a line, from 0 to 9999");
        range(0, 9999, UNKNOWN, ParoleCache::new, (x, line) -> x.line(line, 0));
        range(0, 9999, UNKNOWN, ParoleCache::new, (x, line) -> x.line(line, 6));
        sentence(17, "Returns the number; UNKNOWN; BAD_VALUE.");
        range(0, 9999, UNKNOWN, PromiseBoundaries::fullTables, (x, line) -> x.line(line, 2));
        sentence(17, "`what`: 0 for whether it is in the cache (1, otherwise 0)");
        range(0, 5, BAD, ParoleCache::new, (x, what) -> x.line(9999, what));
        range(0, 5, BAD, PromiseBoundaries::fullCache, (x, what) -> x.line(0, what));
        ParoleCache x = new ParoleCache();
        x.addHelper(2, 1, 1);
        x.access(0, 0);
        int[] byAProgram = {1, 0, NONE, 0, NONE, NONE};
        int[] byAHelper = {1, 1, 0, 0, NONE, NONE};
        int[] neverIn = {0, 0, NONE, NONE, NONE, NONE};
        for (int what = 0; what <= 5; what++) {
            due("0, what " + what, byAProgram[what], x.line(0, what));
            due("1, what " + what, byAHelper[what], x.line(1, what));
            due("2, what " + what, neverIn[what], x.line(2, what));
            due("9999, what " + what, neverIn[what], x.line(9999, what));
        }
        sentence(17, "2 for the helper that fetched it, new or not (NONE if a program did, or it is not in the cache)");
        x.access(0, 1);
        due("not new", 0, x.line(1, 1));
        due("by the helper", 0, x.line(1, 2));
        x.flush();
        due("not in the cache", NONE, x.line(1, 2));
        x.access(0, 1);
        due("by a program now", NONE, x.line(1, 2));
    }

    private static void linePlaces() {
        sentence(17, "3 for its place in its set, 0 for the oldest one (NONE if it is not in the cache)");
        ParoleCache x = fullCache();
        for (int line = 0; line < 32; line++) {
            due("the place of " + line, line / 8, x.line(line, 3));
        }
        due("not in the cache", NONE, x.line(32, 3));
        sentence(17, "4 for its place among the thrown-out lines, 0 for the one that was thrown out longest ago (NONE if");
        x = shaped(1, 1);
        x.walk(0, 0, 1, 10);
        for (int line = 0; line <= 10; line++) {
            due("the place of " + line, line < 1 || line > 8 ? NONE : line - 1, x.line(line, 4));
        }
        sentence(17, "5 for the helper that threw it out (NONE if a program did, or it is none)");
        x = shaped(1, 1);
        for (int number = 0; number < 6; number++) {
            x.addHelper(2, number < 5 ? 1 : 4, 9);
        }
        x.access(0, 5);
        due("by the first", 0, x.line(5, 5));
        due("by the last", 5, x.line(6, 5));
        due("by the last", 5, x.line(8, 5));
        due("none, for it is in the cache", NONE, x.line(9, 5));
        due("none", NONE, x.line(4, 5));
        x.access(0, 30);
        due("by a program", NONE, x.line(9, 5));
        due("by a program, but thrown out", 4, x.line(9, 4));
    }

    private static void inSet() {
        sentence(18, "`set`: a set");
        for (int sets = 1; sets <= 8; sets++) {
            int number = sets;
            range(0, sets - 1, UNKNOWN, () -> shaped(number, 2), (x, set) -> x.inSet(set, 0));
            range(0, sets - 1, UNKNOWN, () -> shaped(number, 2), (x, set) -> x.inSet(set, -1));
        }
        sentence(18, "`place`: a place in it, 0 for the oldest line");
        ParoleCache x = fullCache();
        for (int set = 0; set < 8; set++) {
            set("oldest first", x, set, set, set + 8, set + 16, set + 24);
        }
        sentence(18, "Returns the line; UNKNOWN; BAD_VALUE if place is negative; NONE if there are not so many.");
        for (int wrong : outside(0, 3)) {
            due("place " + wrong, wrong < 0 ? BAD : NONE, x.inSet(7, wrong));
            due("place " + wrong + " of no set", UNKNOWN, x.inSet(8, wrong));
        }
        x = new ParoleCache();
        due("an empty set", NONE, x.inSet(0, 0));
        x.access(0, 0);
        due("the line 0", 0, x.inSet(0, 0));
        due("one line", NONE, x.inSet(0, 1));
    }

    private static void thrownOut() {
        sentence(19, "`place`: a place among the thrown-out lines, 0 for the one that was thrown out longest ago");
        ParoleCache x = shaped(1, 1);
        x.walk(0, 9999, -1, 10);
        thrown("longest ago first", x, 9998, 9997, 9996, 9995, 9994, 9993, 9992, 9991);
        sentence(19, "Returns the line; BAD_VALUE if it is negative; NONE if there are not so many.");
        for (int wrong : outside(0, 7)) {
            due("place " + wrong, wrong < 0 ? BAD : NONE, x.thrownOut(wrong));
            due("place " + wrong + ", none", wrong < 0 ? BAD : NONE, new ParoleCache().thrownOut(wrong));
        }
        due("none", NONE, new ParoleCache().thrownOut(0));
        x = shaped(1, 1);
        x.walk(0, 0, 1, 2);
        due("the line 0", 0, x.thrownOut(0));
        due("one", NONE, x.thrownOut(1));
    }

    private static void helper() {
        sentence(20, "`helper`: a helper");
        helperNumbers((x, helper) -> x.helper(helper, 0));
        helperNumbers((x, helper) -> x.helper(helper, 16));
        sentence(20, "Returns the number; UNKNOWN; BAD_VALUE.");
        range(0, 15, BAD, PromiseBoundaries::fullTables, (x, what) -> x.helper(0, what));
        range(0, 15, BAD, PromiseBoundaries::fullTables, (x, what) -> x.helper(2, what));
        due("unknown and wrong", UNKNOWN, fullTables().helper(3, -1));
    }

    private static void helperAnswers() {
        sentence(20, "5 for the number of lines that have still to be used (0 if it is not on probation)");
        ParoleCache x = atWork();
        due("at work", 0, x.helper(0, 5));
        x = onProbation();
        due("on probation", 3, x.helper(0, 5));
        x.access(0, 50);
        due("at work again", 2, x.helper(0, 3));
        due("not on probation", 0, x.helper(0, 5));
        x = onProbation();
        x.pardon(0);
        due("free", 0, x.helper(0, 5));
        sentence(20, "10 for those that are new in the cache");
        x = shaped(8, 4);
        x.addHelper(2, 4, 1);
        x.access(0, 0);
        for (int line = 1; line <= 4; line++) {
            due("new", 5 - line, x.helper(0, 10));
            x.access(0, line);
        }
        due("none", 0, x.helper(0, 10));
        sentence(20, "14 for the programs or streams in its table (0 if it has none)");
        x = fullTables();
        due("four programs", 4, x.helper(0, 14));
        due("three streams", 3, x.helper(1, 14));
        due("no table", 0, x.helper(2, 14));
        sentence(20, "15 for how often it came on probation");
        x = shaped(8, 4);
        x.addHelper(2, 1, 1);
        for (int time = 0; time < 6; time++) {
            due("times", time, x.helper(0, 15));
            x.access(0, 100 * time);
            x.flush();
            for (int hours = x.helper(0, 4); hours > 0; hours--) {
                due("at work", 2, x.helper(0, 3));
                due("at work, times", time, x.helper(0, 15));
                x.access(0, 100 * time);
            }
            due("on probation", 1, x.helper(0, 3));
            due("once more", time + 1, x.helper(0, 15));
            x.pardon(0);
            due("a pardon does not count", time + 1, x.helper(0, 15));
        }
    }

    private static void table() {
        sentence(21, "`helper`: a helper");
        helperNumbers((x, helper) -> x.table(helper, 0, 0));
        helperNumbers((x, helper) -> x.table(helper, -1, 4));
        sentence(21, "`place`: a place in the table, 0 for the one that was touched longest ago");
        ParoleCache x = fullTables();
        for (int place = 0; place < 4; place++) {
            row("a program", x, 0, place, place + 1, 9994 - 5 * place, 0, 0);
            row("a stream", x, 1, place, NONE, place == 3 ? NONE : 9989 - 5 * place);
        }
        sentence(21, "`what`: 0 for the program (of a stream: NONE)");
        range(0, 3, BAD, PromiseBoundaries::fullTables, (y, what) -> y.table(0, 0, what));
        range(0, 3, BAD, PromiseBoundaries::fullTables, (y, what) -> y.table(2, 9, what));
        due("of a stream", NONE, x.table(1, 2, 0));
        sentence(21, "Returns the number (a stride can be from -9999 to 9999)");
        x = new ParoleCache();
        x.addHelper(0, 1, 1);
        x.access(15, 0);
        x.access(15, 9999);
        row("the greatest", x, 0, 0, 15, 9999, 9999, 0);
        x.access(15, 0);
        row("the least", x, 0, 0, 15, 0, -9999, 0);
        sentence(21, "BAD_VALUE (place is negative, or what); NONE if there are not so many, or the helper has no table");
        x = fullTables();
        for (int wrong : outside(0, 3)) {
            due("place " + wrong, wrong < 0 ? BAD : NONE, x.table(0, wrong, 3));
            due("place " + wrong + ", no table", wrong < 0 ? BAD : NONE, x.table(2, wrong, 0));
            due("place " + wrong + ", wrong what", BAD, x.table(1, wrong, wrong));
        }
        due("no fourth stream", NONE, x.table(1, 3, 1));
        due("no table", NONE, x.table(2, 0, 0));
        x.forget(0);
        due("forgotten", NONE, x.table(0, 0, 0));
    }

    private static void wouldAsk() {
        sentence(22, "`program`: 0 to 15");
        range(0, 15, BAD, PromiseBoundaries::fullTables, (x, program) -> x.wouldAsk(0, program, 0, 0));
        sentence(22, "`line`: 0 to 9999");
        range(0, 9999, BAD, PromiseBoundaries::fullTables, (x, line) -> x.wouldAsk(2, 0, line, 0));
        sentence(22, "`place`: a place among these lines, from 0");
        ParoleCache x = shaped(8, 4);
        x.addHelper(2, 4, 1);
        for (int place = 0; place <= 3; place++) {
            due("place " + place, 11 + place, x.wouldAsk(0, 0, 10, place));
        }
        sentence(22, "Returns the line; UNKNOWN; BAD_VALUE (program, line, or place is negative); NONE if there are not");
        helperNumbers((y, helper) -> y.wouldAsk(helper, 0, 0, 0));
        helperNumbers((y, helper) -> y.wouldAsk(helper, -1, -1, -1));
        for (int wrong : outside(0, 3)) {
            due("place " + wrong, wrong < 0 ? BAD : NONE, x.wouldAsk(0, 0, 10, wrong));
        }
        x.access(0, 10);
        due("a hit, nothing", NONE, x.wouldAsk(0, 0, 10, 0));
        sentence(22, "(whether they are in the cache or not, but only those from 0 to 9999)");
        due("11 is in", 11, x.wouldAsk(0, 0, 9, 1));
        for (int line = 9994; line <= 9999; line++) {
            for (int place = 0; place <= 4; place++) {
                int asked = line + 1 + place;
                due("behind " + line, place > 3 || asked > 9999 ? NONE : asked, x.wouldAsk(0, 0, line, place));
            }
        }
        x = shaped(8, 4);
        x.addHelper(0, 4, 1);
        x.walk(0, 9, -2, 3);
        due("1 is asked for", 1, x.wouldAsk(0, 0, 3, 0));
        due("-1 is not", NONE, x.wouldAsk(0, 0, 3, 1));
        due("nothing is changed", 5, x.table(0, 0, 1));
        due("nothing is fetched", 0, x.count(4));
    }

    private static void wouldHit() {
        sentence(23, "`program`: 0 to 15");
        range(0, 15, BAD, ParoleCache::new, (x, program) -> x.wouldHit(program, 0, 0, 1));
        sentence(23, "`line`: 0 to 9999");
        range(0, 9999, BAD, ParoleCache::new, (x, line) -> x.wouldHit(0, line, -999, 1));
        sentence(23, "`stride`: -999 to 999");
        range(-999, 999, BAD, ParoleCache::new, (x, stride) -> x.wouldHit(0, 5000, stride, 2));
        sentence(23, "`count`: 1 to 30");
        range(1, 30, BAD, ParoleCache::new, (x, count) -> x.wouldHit(0, 0, 0, count));
        sentence(23, "Returns the number; BAD_VALUE as walk().");
        for (int stride = 1; stride <= 999; stride++) {
            int lines = 9999 / stride + 1;
            ParoleCache x = new ParoleCache();
            due("up by " + stride, 0, x.wouldHit(0, 0, stride, Math.min(30, lines)));
            due("down by " + stride, 0, x.wouldHit(0, 9999, -stride, Math.min(30, lines)));
            due("too far up", BAD, x.wouldHit(0, 0, stride, lines + 1));
            due("too far down", BAD, x.wouldHit(0, 9999, -stride, lines + 1));
        }
        sentence(23, "Tells how many hits a walk would have, and changes nothing.");
        ParoleCache x = fullCache();
        due("none", 0, x.wouldHit(15, 32, 1, 30));
        due("all", 30, x.wouldHit(15, 31, -1, 30));
        due("the same line", 29, x.wouldHit(15, 9999, 0, 30));
        due("no access", 32, x.count(0));
        same("wouldHit", told(Answers::busy), () -> {
            ParoleCache y = busy();
            y.wouldHit(0, 40, 1, 30);
            y.wouldHit(3, 67, 3, 30);
            return y;
        });
    }

    private static void bestHelper() {
        sentence(24, "Returns the helper with the most lines used less those in vain, the lowest one of several; NONE if");
        ParoleCache x = shaped(8, 4);
        due("none", NONE, x.bestHelper());
        for (int number = 0; number < 6; number++) {
            x.addHelper(number == 5 ? 2 : 0, 1, 1);
            due("the lowest of several with 0", 0, x.bestHelper());
        }
        x.walk(0, 10, 1, 2);
        due("the last one, with 1", 5, x.bestHelper());
        x.access(0, 50);
        x.flush();
        due("one used less one in vain", 0, x.helper(5, 8) - x.helper(5, 9));
        due("the lowest again", 0, x.bestHelper());
        x = shaped(1, 1);
        x.addHelper(2, 3, 1);
        x.addHelper(2, 2, 1);
        x.access(0, 5);
        due("the first: three in vain", 3, x.helper(0, 9));
        due("none used", 0, x.helper(0, 8) + x.helper(1, 8));
        due("the second is the best, below 0", 1, x.bestHelper());
        due("it has less in vain", 1, x.helper(1, 9));
        x = shaped(1, 1);
        x.addHelper(2, 4, 1);
        x.access(0, 5);
        due("the only one, with less than 0", 0, x.bestHelper());
    }

    private static void logged() {
        sentence(25, "`back`: 0 for the latest access, 1 for the one before, and so on");
        ParoleCache x = new ParoleCache();
        for (int number = 0; number < 20; number++) {
            x.access(number % 16, 100 + number);
        }
        for (int back = 0; back < 12; back++) {
            due("program", (19 - back) % 16, x.logged(back, 0));
            due("line", 119 - back, x.logged(back, 1));
            due("number", 19 - back, x.logged(back, 4));
        }
        sentence(25, "2 for what it was (0 a miss, 1 a hit, 2 a hit of a line that was new)");
        ParoleCache y = new ParoleCache();
        y.addHelper(2, 4, 1);
        for (int outcome : new int[] {0, 2, 1}) {
            y.access(0, outcome == 0 ? 0 : 1);
            due("what it was", outcome, y.logged(0, 2));
            due("fetched ahead", outcome == 0 ? 4 : 0, y.logged(0, 3));
        }
        range(0, 4, BAD, ParoleCache::new, (z, what) -> z.logged(0, what));
        range(0, 4, BAD, PromiseBoundaries::fullCache, (z, what) -> z.logged(11, what));
        sentence(25, "Returns the number; BAD_VALUE (back is negative, or what); NONE if there is none.");
        for (int wrong : outside(0, 11)) {
            due("back " + wrong, wrong < 0 ? BAD : NONE, x.logged(wrong, 0));
            due("back " + wrong + ", wrong what", BAD, x.logged(wrong, 5));
        }
        due("none at first", NONE, new ParoleCache().logged(0, 4));
        due("one", NONE, loggedBehindOneAccess(1));
        due("one, its number", 0, loggedBehindOneAccess(0));
    }

    private static int loggedBehindOneAccess(int back) {
        ParoleCache x = new ParoleCache();
        x.access(0, 0);
        return x.logged(back, 4);
    }

    private static void count() {
        sentence(26, "Returns the number; BAD_VALUE.");
        range(0, 16, BAD, ParoleCache::new, (x, what) -> x.count(what));
        range(0, 16, BAD, PromiseBoundaries::fullTables, (x, what) -> x.count(what));
    }

    private static void countAnswers() {
        sentence(26, "`what`: 0 for accesses, 1 for hits (of new lines, too), 2 for hits of new lines, 3 for misses");
        ParoleCache x = shaped(8, 4);
        x.addHelper(2, 1, 1);
        x.walk(0, 0, 1, 4);
        x.access(0, 0);
        counts("0 and 2 missed, 1 and 3 new, 0 old", x, 5, 3, 2, 2, 2);
        sentence(26, "8 for lines in the cache, 9 for new ones among these");
        x = fullCache();
        counts("all there can be", x, 32, 0, 0, 32, 0, 0, 8, 4, 32, 0);
        x = shaped(8, 4);
        x.addHelper(2, 4, 9);
        x.walk(0, 0, 5, 6);
        counts("24 ahead", x, 6, 0, 0, 6, 24, 0, 8, 4, 30, 24, 1, 3, 0, 0, 3, 0, 1);
        x.flush();
        counts("all in vain", x, 6, 0, 0, 6, 24, 30, 8, 4, 0, 0, 1, 3, 216, 8, 4, 0, 1);
        sentence(26, "16 for the programs of the accesses in the log (each once)");
        x = new ParoleCache();
        for (int program = 0; program <= 15; program++) {
            x.access(program, 0);
            due("programs", Math.min(12, program + 1), x.count(16));
        }
        for (int same = 1; same <= 12; same++) {
            x.access(15, 0);
            due("programs", Math.max(1, 12 - same), x.count(16));
        }
    }
}
