/** The document's sentences on lines, helpers, accesses and thrown-out lines that name a boundary, one test each. */
final class CacheBoundaries extends Answers {
    static void all() {
        lines();
        helpers();
        hours();
        hitsAndMisses();
        throwing();
    }

    private static void sentence(String words) {
        sentence(0, words);
    }

    private static void lines() {
        anObjectIsFor512Calls();
        aLineIsANumber();
        setsAndWays();
        aLineBelongsToItsSet();
        aSetHoldsAsManyAsWays();
        theOldestLine();
        newUntilAProgramUsesIt();
    }

    private static void anObjectIsFor512Calls() {
        sentence("An object is used for at most 512 calls after it has been made");
        ParoleCache x = new ParoleCache();
        for (int call = 1; call <= 511; call++) {
            due("call " + call, call == 1 ? 0 : 1, x.access(call % 16, 4711));
        }
        due("the 512th call", 511, x.count(0));
        x = new ParoleCache();
        for (int call = 1; call <= 511; call++) {
            due("call " + call, call == 1 ? 29 : 30, x.walk(call % 16, 4711, 0, 30));
        }
        due("the 512th call", 511 * 30 - 1, x.logged(0, 4));
    }

    private static void aLineIsANumber() {
        sentence("A line is a number from 0 to 9999.");
        ParoleCache x = new ParoleCache();
        due("the least", 0, x.access(0, 0));
        due("the greatest", 0, x.access(0, 9999));
        due("the least is in", 1, x.line(0, 0));
        due("the greatest is in", 1, x.line(9999, 0));
        for (int wrong : outside(0, 9999)) {
            due("access(0, " + wrong + ")", BAD, x.access(0, wrong));
            due("line(" + wrong + ", 0)", UNKNOWN, x.line(wrong, 0));
        }
        due("two lines", 2, x.count(8));
    }

    private static void setsAndWays() {
        sentence("The cache has 1 to 8 sets (at first 4) and 1 to 4 ways (at first 2)");
        ParoleCache x = new ParoleCache();
        due("at first 4 sets", 4, x.count(6));
        due("at first 2 ways", 2, x.count(7));
        for (int sets = 1; sets <= 8; sets++) {
            for (int ways = 1; ways <= 4; ways++) {
                x = shaped(sets, ways);
                due("sets", sets, x.count(6));
                due("ways", ways, x.count(7));
                due("the last set", NONE, x.inSet(sets - 1, 0));
                due("no more sets", UNKNOWN, x.inSet(sets, 0));
            }
        }
    }

    private static void aLineBelongsToItsSet() {
        sentence("the line n belongs to the set n % sets");
        for (int sets = 1; sets <= 8; sets++) {
            for (int line : new int[] {0, sets - 1, sets, sets + 1, 2 * sets - 1, 9998, 9999}) {
                ParoleCache x = shaped(sets, 1);
                x.access(0, line);
                for (int set = 0; set < sets; set++) {
                    due(line + " in the set " + set + " of " + sets, set == line % sets ? line : NONE, x.inSet(set, 0));
                }
            }
        }
    }

    private static void aSetHoldsAsManyAsWays() {
        sentence("a set holds at most as many lines as there are ways");
        for (int sets = 1; sets <= 8; sets++) {
            for (int ways = 1; ways <= 4; ways++) {
                ParoleCache x = shaped(sets, ways);
                for (int line = 0; line < sets * ways; line++) {
                    x.access(0, line);
                }
                due("all full", sets * ways, x.count(8));
                due("nothing was thrown out", 0, x.count(5));
                for (int line = sets * ways; line < sets * (ways + 1); line++) {
                    x.access(0, line);
                }
                due("no more lines", sets * ways, x.count(8));
                due("one of each set was thrown out", sets, x.count(5));
                for (int set = 0; set < sets; set++) {
                    for (int place = 0; place < ways; place++) {
                        due("place " + place, set + sets * (place + 1), x.inSet(set, place));
                    }
                    due("no more places", NONE, x.inSet(set, ways));
                }
            }
        }
    }

    private static void theOldestLine() {
        sentence("the one that was touched longest ago is the oldest one");
        ParoleCache x = shaped(1, 4);
        x.walk(0, 1, 1, 4);
        set("as they came", x, 0, 1, 2, 3, 4);
        x.access(0, 2);
        set("2 is touched", x, 0, 1, 3, 4, 2);
        x.access(0, 2);
        set("the latest is touched", x, 0, 1, 3, 4, 2);
        x.access(0, 1);
        set("the oldest is touched", x, 0, 3, 4, 2, 1);
        x.access(0, 5);
        set("the oldest went", x, 0, 4, 2, 1, 5);
    }

    private static void newUntilAProgramUsesIt() {
        sentence("one that was fetched by a helper is new until a program uses it");
        ParoleCache x = shaped(8, 4);
        x.addHelper(2, 1, 1);
        x.addHelper(2, 1, 1);
        x.access(0, 10);
        due("by a program", 0, x.line(10, 1));
        due("by a program", NONE, x.line(10, 2));
        due("by a helper, and asked for by another one", 1, x.line(11, 1));
        due("by the first helper", 0, x.line(11, 2));
        due("used", 2, x.access(15, 11));
        due("not new", 0, x.line(11, 1));
        due("still by the helper", 0, x.line(11, 2));
        due("used again", 1, x.access(15, 11));
        due("one used", 1, x.helper(0, 8));
        due("none of the other", 0, x.helper(1, 7) + x.helper(1, 8));
    }

    private static void helpers() {
        atMost6Helpers();
        kindsDegreesPrices();
        aPriceForEachLine();
        freeAtFirst();
        theTrial();
        theReach();
        hoursMeanWork();
        programs0To15();
    }

    private static void atMost6Helpers() {
        sentence("There are at most 6 helpers, numbered from 0.");
        ParoleCache x = new ParoleCache();
        for (int number = 0; number < 6; number++) {
            due("not there", UNKNOWN, x.helper(number, 0));
            due("its number", number, x.addHelper(number % 3, 1, 1));
            due("there", number % 3, x.helper(number, 0));
            due("as many", number + 1, x.count(10));
        }
        due("a seventh", FULL, x.addHelper(0, 1, 1));
        due("six", 6, x.count(10));
        due("no number 6", UNKNOWN, x.helper(6, 0));
        due("no number -1", UNKNOWN, x.helper(-1, 0));
    }

    private static void kindsDegreesPrices() {
        sentence("A helper has a kind (0 stride, 1 stream, 2 next), a degree (1 to 4)");
        for (int degree = 1; degree <= 4; degree++) {
            ParoleCache x = shaped(8, 4);
            x.addHelper(0, degree, 1);
            x.walk(3, 100, 7, 4);
            due("a stride, degree " + degree, degree, x.logged(0, 3));
            due("the last line", 1, x.line(121 + 7 * degree, 1));
            due("no more", 0, x.line(121 + 7 * (degree + 1), 0));
            x = shaped(8, 4);
            x.addHelper(1, degree, 1);
            x.walk(3, 100, -3, 3);
            due("a stream, degree " + degree, degree, x.logged(0, 3));
            due("the last line", 1, x.line(94 - degree, 1));
            due("no more", 0, x.line(94 - degree - 1, 0));
            x = shaped(8, 4);
            x.addHelper(2, degree, 1);
            x.access(3, 100);
            due("next, degree " + degree, degree, x.logged(0, 3));
            due("the last line", 1, x.line(100 + degree, 1));
            due("no more", 0, x.line(100 + degree + 1, 0));
        }
    }

    private static void aPriceForEachLine() {
        sentence("a price (1 to 9 hours for each line that it fetched in vain)");
        for (int price = 1; price <= 9; price++) {
            for (int degree = 1; degree <= 4; degree++) {
                ParoleCache x = shaped(8, 4);
                x.addHelper(2, degree, price);
                x.access(0, 0);
                due("out", degree + 1, x.flush());
                due("in vain", degree, x.helper(0, 9));
                due("hours", degree * price, x.helper(0, 4));
            }
        }
    }

    private static void freeAtFirst() {
        sentence("It has hours (at first 0), and is free (0, at first), on probation (1), or at work (2: it has hours).");
        ParoleCache x = shaped(8, 4);
        x.addHelper(2, 1, 1);
        due("no hours", 0, x.helper(0, 4));
        due("free", 0, x.helper(0, 3));
        x.access(0, 0);
        x.flush();
        due("one hour", 1, x.helper(0, 4));
        due("at work", 2, x.helper(0, 3));
        x.access(0, 0);
        due("no hours", 0, x.helper(0, 4));
        due("on probation", 1, x.helper(0, 3));
    }

    /** A helper of the kind 2, degree 4, price 1, that came on probation; 8 sets, 4 ways, only the line 0 is in. */
    private static ParoleCache probation(int trial) {
        ParoleCache x = shaped(8, 4);
        x.addHelper(2, 4, 1);
        if (trial != 3) {
            x.setTrial(trial);
        }
        x.access(0, 0);
        x.flush();
        x.walk(0, 0, 0, 4);
        return x;
    }

    private static void theTrial() {
        sentence("A helper on probation has a number of lines that have still to be used (the trial, 1 to 9, at first 3");
        due("at first 3", 3, new ParoleCache().count(11));
        for (int trial = 1; trial <= 9; trial++) {
            ParoleCache x = probation(trial);
            for (int left = trial; left > 0; left--) {
                due("of " + trial, left, x.helper(0, 5));
                due("on probation", 1, x.helper(0, 3));
                due("a miss", 0, x.access(0, 100 + 10 * left));
                due("a line that was not new", left, x.helper(0, 5));
                due("used", 2, x.access(0, 101 + 10 * left));
            }
            due("none left of " + trial, 0, x.helper(0, 5));
            due("free", 0, x.helper(0, 3));
            due("used", trial, x.helper(0, 8));
        }
    }

    private static void theReach() {
        sentence("The reach of a helper is its degree if it is free, 1 if it is on probation, and 0 if it is at work.");
        for (int degree = 1; degree <= 4; degree++) {
            ParoleCache x = shaped(8, 4);
            x.addHelper(2, degree, 2);
            due("free", degree, x.helper(0, 6));
            x.access(0, 0);
            due("free, fetched", degree, x.logged(0, 3));
            x.flush();
            due("at work", 0, x.helper(0, 6));
            x.access(0, 100);
            due("at work, fetched", 0, x.logged(0, 3));
            for (int hours = 2 * degree - 1; hours > 0; hours--) {
                due("hours", hours, x.helper(0, 4));
                due("still at work", 0, x.helper(0, 6));
                x.access(0, 100);
            }
            due("on probation", 1, x.helper(0, 6));
            x.access(0, 200);
            due("on probation, fetched", 1, x.logged(0, 3));
        }
    }

    private static void hoursMeanWork() {
        sentence("When a helper gets hours, it is at work from then on (also if it was on probation).");
        ParoleCache x = probation(3);
        x.access(0, 200);
        due("on probation", 1, x.helper(0, 3));
        x.flush();
        facts("by a line in vain", x, 0, 2, 4, 1, 2, 1, 0, 0);
        x.access(0, 200);
        facts("on probation, from the beginning", x, 0, 2, 4, 1, 1, 0, 3, 1);
        due("twice", 2, x.helper(0, 15));
        x = onProbation();
        due("8 and 9 are in, 5 is thrown out", 0, x.line(5, 5));
        x.access(0, 5);
        facts("by harm, and by 8 in vain", x, 0, 2, 4, 1, 2, 3, 0, 0, 4, 1, 3, 0, 1);
        due("in the same access, too", 0, x.logged(0, 3));
    }

    private static void programs0To15() {
        sentence("A program (0 to 15) accesses a line.");
        ParoleCache x = new ParoleCache();
        for (int program = 0; program <= 15; program++) {
            due("a miss", 0, x.access(program, program));
            due("its program", program, x.logged(0, 0));
        }
        for (int wrong : outside(0, 15)) {
            due("program " + wrong, BAD, x.access(wrong, 0));
        }
        due("sixteen", 16, x.count(0));
    }

    private static void hours() {
        eachAtWorkWorksOneHour();
        noneLeftIsProbation();
        probationBeginsAheadOfTheUse();
        noLinesLeftIsFree();
    }

    private static void eachAtWorkWorksOneHour() {
        sentence("Each helper that is at work, by its number, works one hour.");
        ParoleCache x = shaped(8, 4);
        x.addHelper(2, 1, 1);
        x.addHelper(2, 2, 1);
        x.addHelper(2, 4, 1);
        x.addHelper(0, 1, 1);
        x.access(0, 0);
        x.flush();
        int[] hours = {1, 1, 2, 0};
        for (int done = 0; done <= 4; done++) {
            for (int number = 0; number < 4; number++) {
                due("hours", Math.max(0, hours[number] - done), x.helper(number, 4));
                due("worked", Math.min(hours[number], done), x.helper(number, 12));
                due("state", hours[number] > done ? 2 : hours[number] > 0 ? 1 : 0, x.helper(number, 3));
            }
            due("hours of all", Math.max(0, 1 - done) * 2 + Math.max(0, 2 - done), x.count(12));
            x.access(0, 500);
        }
    }

    private static void noneLeftIsProbation() {
        sentence("If it has none left then, it is on probation, with the trial as the number of lines.");
        ParoleCache x = shaped(8, 4);
        x.addHelper(2, 2, 1);
        x.access(0, 0);
        x.flush();
        x.access(0, 0);
        facts("one hour left", x, 0, 2, 2, 1, 2, 1, 0, 0);
        due("never on probation", 0, x.helper(0, 15));
        x.setTrial(7);
        x.access(0, 0);
        facts("none left", x, 0, 2, 2, 1, 1, 0, 7, 1);
        due("once on probation", 1, x.helper(0, 15));
        x.access(0, 0);
        due("it stays so", 1, x.helper(0, 15));
    }

    private static void probationBeginsAheadOfTheUse() {
        sentence("if it is on probation, its number of lines becomes less by 1");
        ParoleCache x = atWork();
        due("used at work", 2, x.access(0, 9));
        due("does not count for it", 0, x.helper(0, 5));
        due("used in the access that ends the work", 2, x.access(0, 8));
        facts("it counts", x, 0, 2, 4, 1, 1, 0, 2, 1, 4, 2);
    }

    private static void noLinesLeftIsFree() {
        sentence("if that is 0 then, it is free");
        ParoleCache x = atWork();
        x.setTrial(1);
        x.access(0, 9);
        due("used in the access that ends the work", 2, x.access(0, 8));
        facts("free at once", x, 0, 2, 4, 1, 0, 0, 0, 4, 4, 2, 2);
        due("once on probation", 1, x.helper(0, 15));
        x = probation(2);
        x.walk(0, 100, 1, 2);
        due("one left", 1, x.helper(0, 5));
        due("on probation", 1, x.helper(0, 3));
        x.walk(0, 110, 1, 2);
        due("none left", 0, x.helper(0, 5));
        due("free", 0, x.helper(0, 3));
        x.walk(0, 120, 1, 2);
        due("not less than 0", 0, x.helper(0, 5));
        due("free", 0, x.helper(0, 3));
    }

    private static void hitsAndMisses() {
        usedOnce();
        workIsDear();
        harm();
        harmAsLongAsItIsKnown();
        noHarmByAProgram();
        theWorkingLearn();
    }

    private static void usedOnce() {
        sentence("If it is new, it is not new any more; its helper has one more line used");
        ParoleCache x = shaped(8, 4);
        x.addHelper(2, 1, 1);
        x.access(0, 10);
        due("none used", 0, x.helper(0, 8));
        due("one new", 1, x.helper(0, 10));
        due("new", 2, x.access(0, 11));
        due("one used", 1, x.helper(0, 8));
        due("none new", 0, x.helper(0, 10));
        due("not new any more", 1, x.access(0, 11));
        due("still one used", 1, x.helper(0, 8));
        x.flush();
        due("not in vain", 0, x.helper(0, 9));
    }

    private static void workIsDear() {
        sentence("each line that a helper fetched in vain is work hours for it, lines that it threw out too early, too");
        ParoleCache x = shaped(1, 2);
        x.addHelper(2, 1, 3);
        x.addHelper(2, 2, 1);
        x.access(0, 5);
        set("the second threw 5 out", x, 0, 6, 7);
        x.access(0, 5);
        facts("the first: 6 in vain", x, 0, 2, 1, 3, 2, 3, 0, 0, 1, 0, 1, 0, 0);
        facts("the second: 5 too early", x, 1, 2, 2, 1, 2, 2, 0, 0, 1, 0, 0, 1, 1);
        due("nothing", 0, x.logged(0, 3));
    }

    private static void harm() {
        sentence("was thrown out by a helper, this helper gets 2 hours, and one harm more");
        ParoleCache x = shaped(1, 1);
        x.addHelper(2, 1, 9);
        x.access(0, 5);
        due("6 is used", 2, x.access(0, 6));
        due("thrown out by the helper", 0, x.line(5, 5));
        due("no harm", 0, x.helper(0, 11));
        due("a miss", 0, x.access(0, 5));
        facts("harm", x, 0, 2, 1, 9, 2, 2, 0, 0, 1, 1, 0, 0, 1);
        due("no thrown-out one any more", NONE, x.line(5, 4));
        due("nor by the helper", NONE, x.line(5, 5));
        due("a hit", 1, x.access(0, 5));
        due("one harm", 1, x.helper(0, 11));
    }

    /** One set of one way; the helper threw 5 out, and then the program threw 6 (in vain, 9 hours) and more out. */
    private static ParoleCache thrownLongAgo(int lines) {
        ParoleCache x = shaped(1, 1);
        x.addHelper(2, 1, 9);
        x.access(0, 5);
        x.walk(0, 100, 1, lines);
        return x;
    }

    private static void harmAsLongAsItIsKnown() {
        sentence("if it is one of the thrown-out lines");
        ParoleCache x = thrownLongAgo(7);
        thrown("5 is the oldest one of 8", x, 5, 6, 100, 101, 102, 103, 104, 105);
        due("hours", 3, x.helper(0, 4));
        x.access(0, 5);
        due("an hour less, and two more", 4, x.helper(0, 4));
        due("harm", 1, x.helper(0, 11));
        x = thrownLongAgo(8);
        thrown("5 is forgotten", x, 6, 100, 101, 102, 103, 104, 105, 106);
        due("hours", 2, x.helper(0, 4));
        x.access(0, 5);
        due("an hour less", 1, x.helper(0, 4));
        due("no harm", 0, x.helper(0, 11));
    }

    private static void noHarmByAProgram() {
        sentence("(the line is no thrown-out one any more, whoever threw it out)");
        ParoleCache x = shaped(1, 2);
        x.addHelper(2, 2, 1);
        x.access(0, 5);
        x.access(0, 5);
        due("5 was thrown out by the helper, it is none now", NONE, x.line(5, 4));
        due("6 was thrown out by the program", NONE, x.line(6, 5));
        due("6", 0, x.line(6, 4));
        due("harm", 1, x.helper(0, 11));
        due("a miss", 0, x.access(0, 6));
        due("6 is none now", NONE, x.line(6, 4));
        due("no more harm", 1, x.helper(0, 11));
        thrown("7 alone", x, 7);
    }

    private static void theWorkingLearn() {
        sentence("(also helpers at work learn)");
        ParoleCache x = shaped(8, 4);
        x.addHelper(0, 4, 9);
        x.addHelper(1, 4, 9);
        x.walk(0, 100, 1, 4);
        x.flush();
        due("9 hours", 9, x.helper(0, 4));
        due("27 hours", 27, x.helper(1, 4));
        x.walk(0, 104, 1, 2);
        row("the program", x, 0, 0, 0, 105, 1, 3);
        row("the stream", x, 1, 0, NONE, 105, 1, 5);
        due("nothing is fetched", 0, x.logged(0, 3) + x.logged(1, 3));
        x.access(1, 500);
        due("a new program", 2, x.helper(0, 14));
        due("a new stream", 2, x.helper(1, 14));
    }

    private static void throwing() {
        onlyAFullSetThrows();
        inVainWhoever();
        inVainOutsideAnAccess();
        theLatest8();
        eachOnce();
        fetchedAheadOfThrowing();
    }

    private static void onlyAFullSetThrows() {
        sentence("When a line is fetched into a set that is full, the oldest line of this set is thrown out");
        for (int ways = 1; ways <= 4; ways++) {
            ParoleCache x = shaped(2, ways);
            for (int way = 0; way < ways; way++) {
                x.access(0, 2 * way);
                due("not full before", 0, x.count(5));
            }
            x.access(0, 1);
            due("the other set is not full", 0, x.count(5));
            x.access(0, 2 * ways);
            due("full before", 1, x.count(5));
            due("the oldest", 0, x.thrownOut(0));
            due("by the program", NONE, x.line(0, 5));
            due("as many as before", ways, x.count(8) - 1);
        }
    }

    private static void inVainWhoever() {
        sentence("If that one is new, its helper has one more line in vain, and gets its price in hours (whoever throws");
        ParoleCache x = shaped(1, 1);
        x.addHelper(2, 1, 3);
        x.access(0, 5);
        x.access(0, 20);
        due("a program threw it out", NONE, x.line(6, 5));
        facts("by a program", x, 0, 2, 1, 3, 2, 3, 0, 0, 1, 0, 1, 0, 0);
        x = shaped(1, 2);
        x.addHelper(2, 1, 3);
        x.access(0, 5);
        x.access(0, 20);
        due("itself threw it out", 0, x.line(6, 5));
        facts("by itself", x, 0, 2, 1, 3, 2, 3, 0, 0, 2, 0, 1, 1, 0);
        x = shaped(1, 2);
        x.addHelper(2, 1, 3);
        x.addHelper(2, 3, 5);
        x.access(0, 5);
        due("another one threw it out", 1, x.line(6, 5));
        facts("by another one", x, 0, 2, 1, 3, 2, 3, 0, 0, 1, 0, 1, 0, 0);
        facts("the other one", x, 1, 2, 3, 5, 0, 0, 0, 3, 2, 0, 0, 2, 0);
        x = shaped(1, 1);
        x.addHelper(2, 1, 3);
        x.walk(0, 5, 1, 2);
        x.access(0, 20);
        due("what was used is not in vain", 0, x.helper(0, 9));
        due("and costs nothing", 0, x.helper(0, 4));
    }

    private static void inVainOutsideAnAccess() {
        sentence("(whoever throws it out, also itself, and outside an access)");
        ParoleCache x = shaped(8, 4);
        x.addHelper(2, 4, 9);
        x.access(0, 0);
        due("flush", 5, x.flush());
        facts("flushed", x, 0, 2, 4, 9, 2, 36, 0, 0, 4, 0, 4, 0, 0);
        x = shaped(8, 4);
        x.addHelper(2, 4, 9);
        x.access(0, 0);
        x.access(0, 1);
        due("shape", 5, x.shape(8, 3));
        facts("shaped", x, 0, 2, 4, 9, 2, 27, 0, 0, 4, 1, 3, 0, 0);
    }

    private static void theLatest8() {
        sentence("The thrown-out lines are the latest 8 that were thrown out");
        ParoleCache x = shaped(1, 1);
        x.walk(0, 0, 1, 8);
        thrown("seven", x, 0, 1, 2, 3, 4, 5, 6);
        x.access(0, 8);
        thrown("eight", x, 0, 1, 2, 3, 4, 5, 6, 7);
        due("eight", 8, x.count(13));
        x.access(0, 9);
        thrown("a ninth", x, 1, 2, 3, 4, 5, 6, 7, 8);
        due("eight", 8, x.count(13));
        due("nine in all", 9, x.count(5));
        due("0 is none", NONE, x.line(0, 4));
    }

    private static void eachOnce() {
        sentence("each once (if it is thrown out again, it comes to the end)");
        ParoleCache x = shaped(1, 1);
        x.walk(0, 1, 1, 3);
        thrown("two", x, 1, 2);
        x.access(0, 1);
        x.access(0, 4);
        thrown("1 is at the end", x, 2, 3, 1);
        due("three", 3, x.count(13));
        due("four times", 4, x.count(5));
    }

    private static void fetchedAheadOfThrowing() {
        sentence("is no thrown-out one any more, and this comes ahead of the throwing out of the oldest line for it");
        for (int place = 0; place <= 7; place++) {
            ParoleCache x = shaped(1, 1);
            x.walk(0, 0, 1, 9);
            x.access(0, place);
            int[] left = new int[8];
            for (int i = 0; i < 8; i++) {
                left[i] = i < place ? i : i + 1;
            }
            thrown("all others, for there is room for the ninth", x, left);
            due("it is none", NONE, x.line(place, 4));
        }
        ParoleCache x = shaped(1, 1);
        x.walk(0, 0, 1, 9);
        x.addHelper(2, 1, 1);
        x.access(0, 2);
        thrown("2 by the program, 3 by the helper", x, 0, 1, 4, 5, 6, 7, 8, 2);
        due("by the helper", 0, x.line(2, 5));
        due("3 is none", NONE, x.line(3, 4));
    }
}
