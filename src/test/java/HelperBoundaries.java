/** The document's sentences on strides, streams, next lines and fetching ahead that name a boundary, one test each. */
final class HelperBoundaries extends Answers {
    static void all() {
        stride();
        trust();
        streams();
        lengths();
        next();
        fetching();
        reaches();
    }

    private static void sentence(String words) {
        sentence(0, words);
    }

    private static void stride() {
        atMost4Programs();
        aProgramIsPutIn();
        the4thIsTouched();
        theLatestLineOfAProgram();
    }

    private static void atMost4Programs() {
        sentence("A helper of the kind 0 has a table of at most 4 programs.");
        ParoleCache x = new ParoleCache();
        x.addHelper(0, 1, 1);
        due("empty", 0, x.helper(0, 14));
        due("empty", NONE, x.table(0, 0, 0));
        for (int program = 0; program <= 15; program++) {
            x.access(program, 50 + program);
            due("programs", Math.min(4, program + 1), x.helper(0, 14));
            due("the latest", program, x.table(0, Math.min(3, program), 0));
            due("no more", NONE, x.table(0, Math.min(4, program + 1), 0));
        }
        due("the oldest", 12, x.table(0, 0, 0));
    }

    private static void aProgramIsPutIn() {
        sentence("it is put in, with the line as its latest one, a stride of 0, and a trust of 0");
        ParoleCache x = new ParoleCache();
        x.addHelper(0, 1, 1);
        x.walk(7, 0, 5, 3);
        row("known", x, 0, 0, 7, 10, 5, 1);
        for (int program = 0; program < 4; program++) {
            x.access(program, 9999);
        }
        due("gone", 4, x.helper(0, 14));
        x.access(7, 15);
        row("from the beginning", x, 0, 3, 7, 15, 0, 0);
        due("nothing is asked for", 0, x.logged(0, 3));
        x = new ParoleCache();
        x.addHelper(0, 1, 1);
        x.walk(7, 0, 5, 5);
        for (int program = 8; program <= 11; program++) {
            x.access(program, 500);
        }
        row("in the place of one with a stride and trust", x, 0, 3, 11, 500, 0, 0);
        x.forget(0);
        x.access(11, 500);
        row("behind forget()", x, 0, 0, 11, 500, 0, 0);
    }

    private static void the4thIsTouched() {
        sentence("if there are 4 already, the one that was touched longest ago goes");
        ParoleCache x = new ParoleCache();
        x.addHelper(0, 1, 1);
        for (int program = 0; program < 4; program++) {
            x.access(program, 100);
        }
        x.access(0, 100);
        row("the oldest", x, 0, 0, 1, 100, 0, 0);
        row("the latest", x, 0, 3, 0, 100, 0, 0);
        x.access(4, 100);
        int[] left = {2, 3, 0, 4};
        for (int place = 0; place < 4; place++) {
            due("place " + place, left[place], x.table(0, place, 0));
        }
        due("four", 4, x.helper(0, 14));
    }

    private static void theLatestLineOfAProgram() {
        sentence("The line is its latest one then, and the program is touched.");
        ParoleCache x = new ParoleCache();
        x.addHelper(0, 1, 1);
        x.access(0, 0);
        x.access(1, 9999);
        x.access(0, 9999);
        row("a miss or a hit, touched", x, 0, 1, 0, 9999, 9999, 0);
        row("not touched", x, 0, 0, 1, 9999, 0, 0);
        x.access(1, 9999);
        row("the same line, touched", x, 0, 1, 1, 9999, 0, 0);
    }

    private static void trust() {
        trustAtMost3();
        strideNot0();
        trustAtLeast0();
        asking();
        askingByAnotherStep();
    }

    /** Accesses by the program 0, and after each of them the stride and the trust that are due. */
    private static void steps(String where, int[] lines, int[] strides, int[] trusts) {
        ParoleCache x = new ParoleCache();
        x.addHelper(0, 1, 1);
        for (int i = 0; i < lines.length; i++) {
            x.access(0, lines[i]);
            row(where + ", step " + i, x, 0, 0, 0, lines[i], strides[i], trusts[i]);
        }
    }

    private static void trustAtMost3() {
        sentence("its trust becomes greater by 1, at most 3");
        steps("by 5", new int[] {0, 5, 10, 15, 20, 25, 30, 35}, new int[] {0, 5, 5, 5, 5, 5, 5, 5},
            new int[] {0, 0, 1, 2, 3, 3, 3, 3});
        steps("by 9999", new int[] {0, 9999, 0, 9999, 0}, new int[] {0, 9999, -9999, 9999, -9999},
            new int[] {0, 0, 0, 0, 0});
        steps("by -3333", new int[] {9999, 6666, 3333, 0}, new int[] {0, -3333, -3333, -3333},
            new int[] {0, 0, 1, 2});
    }

    private static void strideNot0() {
        sentence("if d is its stride and not 0");
        steps("by 0", new int[] {7, 7, 7, 7, 8, 9}, new int[] {0, 0, 0, 0, 1, 1}, new int[] {0, 0, 0, 0, 0, 1});
        steps("from 0 to 0", new int[] {0, 0, 0}, new int[] {0, 0, 0}, new int[] {0, 0, 0});
    }

    private static void trustAtLeast0() {
        sentence("otherwise its trust becomes less by 1, at least 0, and if it is 0 then, d becomes its stride");
        steps("never the same", new int[] {0, 5, 12, 20, 21}, new int[] {0, 5, 7, 8, 1}, new int[] {0, 0, 0, 0, 0});
        steps("from 1", new int[] {0, 5, 10, 11, 12}, new int[] {0, 5, 5, 1, 1}, new int[] {0, 0, 1, 0, 1});
        steps("from 1 by 0", new int[] {0, 5, 10, 10, 15}, new int[] {0, 5, 5, 0, 5}, new int[] {0, 0, 1, 0, 0});
        steps("from 2", new int[] {0, 5, 10, 15, 16, 21, 22, 20}, new int[] {0, 5, 5, 5, 5, 5, 5, -2},
            new int[] {0, 0, 1, 2, 1, 2, 1, 0});
    }

    private static void asking() {
        sentence("If the trust is 2 or more then, the lines line + k * stride, for k from 1 to the reach, are asked for");
        ParoleCache x = shaped(8, 4);
        x.addHelper(0, 2, 1);
        x.walk(0, 100, 5, 2);
        due("trust 0", 0, x.logged(0, 3));
        due("would be 1", NONE, x.wouldAsk(0, 0, 110, 0));
        x.access(0, 110);
        due("trust 1", 0, x.logged(0, 3));
        due("would be 2", 120, x.wouldAsk(0, 0, 115, 0));
        due("the second", 125, x.wouldAsk(0, 0, 115, 1));
        due("no third", NONE, x.wouldAsk(0, 0, 115, 2));
        x.access(0, 115);
        due("trust 2", 2, x.logged(0, 3));
        due("not the line itself", 0, x.line(115, 1));
        x.access(0, 120);
        due("trust 3, one is in", 1, x.logged(0, 3));
        due("130", 1, x.line(130, 1));
    }

    private static void askingByAnotherStep() {
        sentence("(also if d was not the stride)");
        ParoleCache x = shaped(8, 4);
        x.addHelper(0, 2, 1);
        x.walk(0, 100, 5, 4);
        due("trust 2, would be 1", NONE, x.wouldAsk(0, 0, 500, 0));
        x.access(0, 120);
        due("trust 3, would be 2", 505, x.wouldAsk(0, 0, 500, 0));
        due("by the old stride", 510, x.wouldAsk(0, 0, 500, 1));
        due("also by a step of 0", 125, x.wouldAsk(0, 0, 120, 0));
        x.access(0, 500);
        row("then", x, 0, 0, 0, 500, 5, 2);
        due("two", 2, x.logged(0, 3));
        due("505", 1, x.line(505, 1));
        due("510", 1, x.line(510, 1));
        x.access(0, 900);
        row("then", x, 0, 0, 0, 900, 5, 1);
        due("none", 0, x.logged(0, 3));
    }

    private static void streams() {
        missesAndNewHits();
        atMost3Streams();
        the3rdIsTouched();
        oneToFourAway();
        touchedLatestIsFollowed();
        theSameLineIsNone();
        theLatestLineOfAStream();
    }

    private static void missesAndNewHits() {
        sentence("A helper of the kind 1 looks only at misses and at hits of lines that were new.");
        ParoleCache x = shaped(8, 4);
        x.addHelper(1, 1, 1);
        due("a miss", 0, x.access(0, 100));
        due("an old hit", 1, x.access(0, 100));
        due("makes no stream", 1, x.helper(0, 14));
        x.walk(0, 101, 1, 2);
        due("new", 1, x.line(103, 1));
        due("a hit of a new line", 2, x.access(0, 103));
        row("is looked at", x, 0, 0, NONE, 103, 1, 3);
        due("an old hit", 1, x.access(0, 102));
        row("does not turn it", x, 0, 0, NONE, 103, 1, 3);
        due("and asks nothing", 0, x.logged(0, 3));
        due("an old hit would ask nothing", NONE, x.wouldAsk(0, 0, 103, 0));
    }

    private static void atMost3Streams() {
        sentence("It has a table of at most 3 streams, each with a latest line, a direction (1 or -1, or 0 at first)");
        ParoleCache x = new ParoleCache();
        x.addHelper(1, 1, 1);
        due("empty", 0, x.helper(0, 14));
        for (int k = 0; k < 8; k++) {
            x.access(0, 5 * k);
            due("streams", Math.min(3, k + 1), x.helper(0, 14));
            row("the latest", x, 0, Math.min(2, k), NONE, 5 * k, 0, 0);
            due("no more", NONE, x.table(0, Math.min(3, k + 1), 1));
        }
        x.access(0, 36);
        row("up", x, 0, 2, NONE, 36, 1, 1);
        x.access(0, 34);
        row("down", x, 0, 2, NONE, 34, -1, 1);
    }

    private static void the3rdIsTouched() {
        sentence("if there are 3 already, the one that was touched longest ago goes");
        ParoleCache x = new ParoleCache();
        x.addHelper(1, 1, 1);
        x.walk(0, 0, 10, 3);
        x.access(0, 1);
        row("the oldest", x, 0, 0, NONE, 10, 0, 0);
        x.access(0, 30);
        row("10 went", x, 0, 0, NONE, 20, 0, 0);
        row("0 was touched", x, 0, 1, NONE, 1, 1, 1);
        row("the new one", x, 0, 2, NONE, 30, 0, 0);
        due("three", 3, x.helper(0, 14));
        x = new ParoleCache();
        x.addHelper(1, 1, 1);
        x.walk(0, 0, 1, 3);
        x.walk(0, 100, 100, 3);
        row("in the place of one with a direction and a length", x, 0, 2, NONE, 300, 0, 0);
        due("three", 3, x.helper(0, 14));
    }

    private static void oneToFourAway() {
        sentence("Of the streams whose latest line is 1 to 4 lines away from the line");
        for (int away = -7; away <= 7; away++) {
            ParoleCache x = new ParoleCache();
            x.addHelper(1, 1, 1);
            x.access(0, 100);
            x.flush();
            due("a miss", 0, x.access(0, 100 + away));
            boolean near = away != 0 && away >= -4 && away <= 4;
            due(away + " away", near ? 1 : 2, x.helper(0, 14));
            row(away + " away", x, 0, near ? 0 : 1, NONE, 100 + away, near ? Integer.signum(away) : 0, near ? 1 : 0);
        }
        ParoleCache x = new ParoleCache();
        x.addHelper(1, 1, 1);
        x.access(0, 9999);
        x.access(0, 0);
        due("the ends are not near each other", 2, x.helper(0, 14));
    }

    private static void touchedLatestIsFollowed() {
        sentence("the one that was touched latest is followed");
        ParoleCache x = new ParoleCache();
        x.addHelper(1, 1, 1);
        x.access(0, 300);
        x.access(0, 305);
        x.access(0, 301);
        row("305, which is farther than 300", x, 0, 1, NONE, 301, -1, 1);
        row("300 is left", x, 0, 0, NONE, 300, 0, 0);
        x = new ParoleCache();
        x.addHelper(1, 1, 1);
        x.access(0, 305);
        x.access(0, 300);
        x.access(0, 304);
        row("300, which is farther than 305", x, 0, 1, NONE, 304, 1, 1);
        row("305 is left", x, 0, 0, NONE, 305, 0, 0);
    }

    private static void theSameLineIsNone() {
        sentence("If there is no such stream (one whose latest line is this line is none), a new one is put in");
        ParoleCache x = new ParoleCache();
        x.addHelper(1, 1, 1);
        for (int streams = 1; streams <= 4; streams++) {
            due("a miss", 0, x.access(0, 100));
            due("one more", Math.min(3, streams), x.helper(0, 14));
            row("a new one", x, 0, Math.min(3, streams) - 1, NONE, 100, 0, 0);
            x.flush();
        }
        x = new ParoleCache();
        x.addHelper(1, 1, 1);
        x.walk(0, 100, 5, 3);
        x.access(0, 106);
        row("106 follows 110", x, 0, 2, NONE, 106, -1, 1);
        x.flush();
        x.access(0, 106);
        due("three", 3, x.helper(0, 14));
        row("100", x, 0, 0, NONE, 100, 0, 0);
        row("106 is none for 106", x, 0, 1, NONE, 106, -1, 1);
        row("105 is followed", x, 0, 2, NONE, 106, 1, 1);
    }

    private static void theLatestLineOfAStream() {
        sentence("The line is its latest one then, and the stream is touched.");
        ParoleCache x = new ParoleCache();
        x.addHelper(1, 1, 1);
        x.access(0, 9995);
        x.access(0, 0);
        x.access(0, 9999);
        row("touched", x, 0, 1, NONE, 9999, 1, 1);
        row("not touched", x, 0, 0, NONE, 0, 0, 0);
    }

    private static void lengths() {
        lengthAtMost9();
        lengthBeginsAt1();
        askingFrom2();
    }

    private static void lengthAtMost9() {
        sentence("its length becomes greater by 1, at most 9");
        ParoleCache x = shaped(8, 4);
        x.addHelper(1, 1, 1);
        for (int k = 0; k <= 13; k++) {
            x.access(0, k);
            due("length up", Math.min(9, k), x.table(0, 0, 3));
        }
        x = new ParoleCache();
        x.addHelper(1, 1, 1);
        for (int k = 0; k <= 13; k++) {
            x.access(0, 9999 - 4 * k);
            due("length down", Math.min(9, k), x.table(0, 0, 3));
        }
    }

    private static void lengthBeginsAt1() {
        sentence("otherwise its direction becomes the one in which the line lies, and its length 1");
        ParoleCache x = new ParoleCache();
        x.addHelper(1, 1, 1);
        for (int k = 0; k <= 11; k++) {
            x.access(0, 4 * k);
        }
        row("9", x, 0, 0, NONE, 44, 1, 9);
        due("a miss", 0, x.access(0, 43));
        row("turned", x, 0, 0, NONE, 43, -1, 1);
        due("nothing", 0, x.logged(0, 3));
        due("a miss", 0, x.access(0, 46));
        row("turned again", x, 0, 0, NONE, 46, 1, 1);
        due("one stream", 1, x.helper(0, 14));
    }

    private static void askingFrom2() {
        sentence("If its length is 2 or more then, the lines line + k * direction, for k from 1 to the reach, are asked");
        ParoleCache x = shaped(8, 4);
        x.addHelper(1, 4, 1);
        x.access(0, 100);
        due("length 0", 0, x.logged(0, 3));
        x.access(0, 101);
        due("length 1", 0, x.logged(0, 3));
        x.access(0, 102);
        due("length 2", 4, x.logged(0, 3));
        due("up to 106", 1, x.line(106, 1));
        due("not farther", 0, x.line(107, 0));
        x.access(0, 103);
        due("length 3", 1, x.logged(0, 3));
        x.walk(0, 200, -1, 3);
        due("down", 4, x.logged(0, 3));
        due("down to 194", 1, x.line(194, 1));
        due("not farther", 0, x.line(193, 0));
    }

    private static void next() {
        sentence("A helper of the kind 2 asks at each miss for the lines line + k, for k from 1 to the reach.");
        ParoleCache x = shaped(8, 4);
        x.addHelper(2, 3, 1);
        due("a miss", 0, x.access(0, 10));
        due("three", 3, x.logged(0, 3));
        due("up to 13", 1, x.line(13, 1));
        due("not farther", 0, x.line(14, 0));
        due("a hit of a new line", 2, x.access(0, 13));
        due("nothing", 0, x.logged(0, 3));
        due("an old hit", 1, x.access(0, 10));
        due("nothing", 0, x.logged(0, 3));
        due("a miss", 0, x.access(0, 9));
        due("all in", 0, x.logged(0, 3));
        due("and asked for, as from 8", 11, x.wouldAsk(0, 0, 8, 2));
    }

    private static void fetching() {
        onlyFrom0To9999();
        onlyIfNotInTheCache();
        theLineItself();
    }

    private static void onlyFrom0To9999() {
        sentence("A line that is asked for is fetched if it is from 0 to 9999");
        for (int line = 9994; line <= 9999; line++) {
            ParoleCache x = shaped(8, 4);
            x.addHelper(2, 4, 1);
            x.access(0, line);
            due("next behind " + line, Math.min(4, 9999 - line), x.logged(0, 3));
            due("fetched", Math.min(4, 9999 - line), x.helper(0, 7));
            due("in the cache", 1 + Math.min(4, 9999 - line), x.count(8));
        }
        for (int last = 0; last <= 12; last++) {
            ParoleCache x = shaped(8, 4);
            x.addHelper(0, 4, 1);
            x.walk(0, last + 6, -2, 4);
            due("by -2 from " + last, Math.min(4, last / 2), x.logged(0, 3));
            due("the least", last < 2 ? 0 : 1, x.line(Math.max(last - 8, last % 2), 1));
            x = shaped(8, 4);
            x.addHelper(0, 4, 1);
            x.walk(0, 9999 - last - 6, 2, 4);
            due("by 2 from " + (9999 - last), Math.min(4, last / 2), x.logged(0, 3));
            due("the greatest", last < 2 ? 0 : 1, x.line(9999 - Math.max(last - 8, last % 2), 1));
        }
        for (int last = 0; last <= 5; last++) {
            ParoleCache x = shaped(8, 4);
            x.addHelper(1, 4, 1);
            x.walk(0, last + 8, -4, 3);
            due("a stream down from " + last, Math.min(4, last), x.logged(0, 3));
            x.walk(0, 9999 - last - 8, 4, 3);
            due("a stream up from " + (9999 - last), Math.min(4, last), x.logged(0, 3));
        }
    }

    private static void onlyIfNotInTheCache() {
        sentence("and not in the cache; it is new then, and the helper has one more line fetched");
        ParoleCache x = shaped(1, 4);
        x.addHelper(2, 2, 1);
        x.access(0, 7);
        due("two", 2, x.helper(0, 7));
        x.access(0, 6);
        set("7 and 8 are not touched", x, 0, 7, 8, 9, 6);
        due("nothing", 0, x.logged(0, 3));
        due("two still", 2, x.helper(0, 7));
        due("7 is not new by that", 0, x.line(7, 1));
        due("8 is new as before", 1, x.line(8, 1));
        x.access(0, 9);
        x.access(0, 5);
        set("7 went and came again, 6 is not touched", x, 0, 6, 9, 5, 7);
        due("one", 1, x.logged(0, 3));
        due("three", 3, x.helper(0, 7));
        due("7 is new then", 1, x.line(7, 1));
        due("by the helper", 0, x.line(7, 2));
    }

    private static void theLineItself() {
        sentence("(The line of the access itself can be thrown out by this.)");
        ParoleCache x = shaped(1, 1);
        x.addHelper(2, 1, 1);
        due("a miss", 0, x.access(0, 5));
        set("6 alone", x, 0, 6);
        due("by the helper", 0, x.line(5, 5));
        x = shaped(1, 1);
        x.addHelper(0, 1, 1);
        x.walk(0, 0, 5, 4);
        set("20 alone", x, 0, 20);
        due("a hit", 2, x.access(0, 20));
        set("25 alone", x, 0, 25);
        due("the line of a hit", 0, x.line(20, 5));
        due("was used", 0, x.helper(0, 9));
    }

    private static void reaches() {
        theReachBehindLesserNumbers();
        theReachAheadOfGreaterNumbers();
        theReachBehindTheSteps();
        itsOwnFetching();
    }

    private static void theReachBehindLesserNumbers() {
        sentence("Its reach is that when it begins to fetch in this access (behind all that helpers with lesser numbers");
        ParoleCache x = shaped(1, 3);
        x.addHelper(2, 1, 1);
        x.addHelper(2, 2, 4);
        x.access(0, 5);
        x.access(0, 6);
        set("7 is of the second", x, 0, 5, 7, 6);
        x.access(0, 20);
        set("the first threw 7 out", x, 0, 6, 20, 21);
        due("the second is at work", 4, x.helper(1, 4));
        due("and fetched nothing", 1, x.logged(0, 3));
        due("as before", 1, x.helper(1, 7));
    }

    private static void theReachAheadOfGreaterNumbers() {
        sentence("(behind all that helpers with lesser numbers did in it)");
        ParoleCache x = shaped(1, 2);
        x.addHelper(2, 1, 3);
        x.addHelper(2, 3, 1);
        x.access(0, 5);
        set("the second threw 6 out", x, 0, 7, 8);
        due("the first had fetched it", 1, x.helper(0, 7));
        due("and is at work", 3, x.helper(0, 4));
        due("three", 3, x.logged(0, 3));
    }

    private static void theReachBehindTheSteps() {
        sentence("learns from the access, and fetches lines as told below, as far as its reach goes");
        ParoleCache x = shaped(1, 1);
        x.addHelper(2, 1, 1);
        x.walk(0, 5, 1, 2);
        x.access(0, 5);
        due("two hours for harm in this access", 2, x.helper(0, 4));
        due("nothing", 0, x.logged(0, 3));
        x = shaped(1, 1);
        x.addHelper(2, 1, 1);
        x.access(0, 5);
        x.access(0, 20);
        due("one hour for a line in vain in this access", 1, x.helper(0, 4));
        due("nothing", 0, x.logged(0, 3));
        x = shaped(8, 4);
        x.addHelper(2, 4, 1);
        x.access(0, 0);
        x.walk(0, 2, 1, 3);
        x.flush();
        due("one hour", 1, x.helper(0, 4));
        x.access(0, 100);
        due("on probation in this access", 1, x.logged(0, 3));
        x = shaped(8, 4);
        x.setTrial(1);
        x.addHelper(1, 4, 1);
        x.walk(0, 0, 1, 3);
        due("three, and four by the helper", 7, x.flush());
        x.walk(0, 100, 0, 4);
        due("on probation", 1, x.helper(0, 5));
        x.walk(0, 101, 1, 2);
        due("one", 1, x.logged(0, 3));
        due("used", 2, x.access(0, 103));
        due("free in this access", 4, x.logged(0, 3));
    }

    private static void itsOwnFetching() {
        sentence("if it gets hours by its own fetching, it goes on as far as this reach was");
        for (int degree = 1; degree <= 4; degree++) {
            ParoleCache x = shaped(1, 1);
            x.addHelper(2, degree, 2);
            x.access(0, 5);
            set("the last one", x, 0, 5 + degree);
            due("fetched", degree, x.helper(0, 7));
            due("in vain", degree - 1, x.helper(0, 9));
            due("hours", 2 * (degree - 1), x.helper(0, 4));
            due("reach then", degree == 1 ? 1 : 0, x.helper(0, 6));
        }
    }
}
