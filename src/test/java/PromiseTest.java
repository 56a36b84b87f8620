/** Each promise of the document by its number: ordinary inputs, the edges that it names, and wrong inputs. */
public final class PromiseTest extends Answers {
    public static void main(String[] args) {
        promise1New();
        promise2Shape();
        promise3Flush();
        promise4AddHelper();
        promise5SetDegree();
        promise6SetTrial();
        promise7Pardon();
        promise8Forget();
        promise9Access();
        promise9Stride();
        promise9Stream();
        promise9Next();
        promise9Probation();
        promise9Harm();
        promise9Order();
        promise10Walk();
        promise11And12Text();
        promise13Run();
        promise14Undo();
        promise14UndoBringsAllBack();
        promise14RefusedCallsChangeNothing();
        promise15And16Snapshot();
        promise17Line();
        promise18InSet();
        promise19ThrownOut();
        promise20Helper();
        promise21Table();
        promise22WouldAsk();
        promise23WouldHit();
        promise24BestHelper();
        promise25Logged();
        promise26Count();
        CHECKS.close("PromiseTest");
    }

    private static void promise1New() {
        ParoleCache x = new ParoleCache();
        counts("new", x, 0, 0, 0, 0, 0, 0, 4, 2, 0, 0, 0, 3, 0, 0, 0, 0, 0);
        set("new", x, 3);
        due("inSet(4, 0)", UNKNOWN, x.inSet(4, 0));
        thrown("new", x);
        due("helper(0, 0)", UNKNOWN, x.helper(0, 0));
        due("undo()", NONE, x.undo());
        due("restore()", NONE, x.restore());
        due("logged(0, 0)", NONE, x.logged(0, 0));
        due("bestHelper()", NONE, x.bestHelper());
        ParoleCache other = new ParoleCache();
        x.access(0, 1);
        due("another object", 0, other.count(0));
    }

    private static void promise2Shape() {
        ParoleCache x = new ParoleCache();
        due("as it is", NONE, x.shape(4, 2));
        for (int wrong : new int[] {0, 9, -1, Integer.MIN_VALUE, Integer.MAX_VALUE}) {
            due("sets " + wrong, BAD, x.shape(wrong, 2));
        }
        for (int wrong : new int[] {0, 5, -1, Integer.MIN_VALUE, Integer.MAX_VALUE}) {
            due("ways " + wrong, BAD, x.shape(4, wrong));
        }
        due("no state", 0, x.count(14));
        due("empty", 0, x.shape(4, 1));
        due("state", 1, x.count(14));
        due("other sets, same ways", 0, x.shape(8, 1));
        due("back", 0, x.shape(1, 4));
        x.addHelper(2, 1, 5);
        x.access(0, 10);
        x.access(0, 20);
        due("four lines", 4, x.shape(2, 3));
        counts("shaped", x, 2, 0, 0, 2, 2, 4, 2, 3, 0, 0, 1, 3, 10, 0);
        facts("shaped", x, 0, 2, 1, 5, 2, 10, 0, 0, 2, 0, 2, 0);
        due("not known as thrown out", NONE, x.line(10, 4));
        due("undo", 3, x.undo());
        set("undone", x, 0, 10, 11, 20, 21);
        due("hours undone", 0, x.helper(0, 4));
        x = new ParoleCache();
        x.shape(8, 4);
        x.walk(0, 0, 8, 5);
        set("8 sets, 4 ways", x, 0, 8, 16, 24, 32);
        thrown("8 sets, 4 ways", x, 0);
        due("the last set", NONE, x.inSet(7, 0));
    }

    private static void promise3Flush() {
        ParoleCache x = new ParoleCache();
        due("empty", NONE, x.flush());
        due("no state", 0, x.count(14));
        x.addHelper(2, 1, 3);
        x.access(0, 7);
        x.access(0, 5);
        x.access(0, 7);
        set("before", x, 0, 8);
        set("before", x, 1, 5);
        set("before", x, 2, 6);
        set("before", x, 3, 7);
        x.access(0, 1);
        x.access(0, 5);
        set("touched", x, 1, 1, 5);
        due("flush", 6, x.flush());
        thrown("set by set, the oldest first", x, 8, 1, 5, 6, 2, 7);
        due("by a program", NONE, x.line(8, 5));
        facts("flushed", x, 0, 2, 1, 3, 2, 9, 0, 0, 3, 0, 3, 0);
        due("thrown out", 6, x.count(5));
        due("empty then", 0, x.count(8));
        due("again", NONE, x.flush());
        due("undo", 3, x.undo());
        due("back", 6, x.count(8));
        x = new ParoleCache();
        x.shape(8, 4);
        x.walk(3, 0, 1, 20);
        due("more than are known", 20, x.flush());
        thrown("the latest 8", x, 4, 12, 5, 13, 6, 14, 7, 15);
    }

    private static void promise4AddHelper() {
        ParoleCache x = new ParoleCache();
        for (int wrong : WRONG) {
            due("kind " + wrong, BAD, x.addHelper(wrong, 1, 1));
            due("degree " + wrong, BAD, x.addHelper(0, wrong, 1));
            due("price " + wrong, BAD, x.addHelper(0, 1, wrong));
        }
        due("kind 3", BAD, x.addHelper(3, 1, 1));
        due("degree 0", BAD, x.addHelper(0, 0, 1));
        due("degree 5", BAD, x.addHelper(0, 5, 1));
        due("price 0", BAD, x.addHelper(0, 1, 0));
        due("price 10", BAD, x.addHelper(0, 1, 10));
        due("no state", 0, x.count(14));
        for (int i = 0; i < 6; i++) {
            due("the number", i, x.addHelper(i % 3, 1 + i % 4, i == 5 ? 9 : 1 + i));
        }
        due("a seventh", FULL, x.addHelper(0, 1, 1));
        due("a wrong seventh", BAD, x.addHelper(3, 1, 1));
        due("six", 6, x.count(10));
        facts("the third", x, 2, 2, 3, 3, 0, 0, 0, 3, 0, 0, 0, 0, 0, 0, 0, 0, 0);
        facts("the last", x, 5, 2, 2, 9, 0, 0, 0, 2, 0, 0, 0, 0, 0, 0, 0, 0, 0);
        due("undo", 3, x.undo());
        due("gone", UNKNOWN, x.helper(5, 0));
        x.access(3, 4);
        x.undo();
        due("another", 5, x.addHelper(0, 4, 1));
        facts("a new one", x, 5, 0, 4, 1, 0, 0, 0, 4, 0, 0, 0, 0, 0, 0, 0, 0, 0);
    }

    private static void promise5SetDegree() {
        ParoleCache x = new ParoleCache();
        due("none", UNKNOWN, x.setDegree(0, 1));
        x.addHelper(2, 2, 1);
        for (int wrong : WRONG) {
            due("helper " + wrong, UNKNOWN, x.setDegree(wrong, 9));
            due("degree " + wrong, BAD, x.setDegree(0, wrong));
        }
        due("helper 1", UNKNOWN, x.setDegree(1, 1));
        due("degree 0", BAD, x.setDegree(0, 0));
        due("degree 5", BAD, x.setDegree(0, 5));
        due("as it is", NONE, x.setDegree(0, 2));
        due("one state", 1, x.count(14));
        due("4", 2, x.setDegree(0, 4));
        due("the reach", 4, x.helper(0, 6));
        x.access(0, 10);
        due("four fetched", 4, x.logged(0, 3));
        x.keep();
        due("1", 4, x.setDegree(0, 1));
        due("1 is it", 1, x.helper(0, 1));
        due("an act", 4, x.count(14));
        due("undo", 3, x.undo());
        due("undone", 4, x.helper(0, 1));
        x = atWork();
        x.setDegree(0, 3);
        due("at work", 0, x.helper(0, 6));
        x.access(0, 9);
        x.access(0, 9);
        due("on probation", 1, x.helper(0, 6));
    }

    private static void promise6SetTrial() {
        ParoleCache x = onProbation();
        for (int wrong : new int[] {Integer.MIN_VALUE, -1, 0, 10, Integer.MAX_VALUE}) {
            due("trial " + wrong, BAD, x.setTrial(wrong));
        }
        due("as it is", NONE, x.setTrial(3));
        due("9", 3, x.setTrial(9));
        due("it is 9", 9, x.count(11));
        due("the number is kept", 3, x.helper(0, 5));
        x.access(0, 20);
        due("at work again", 2, x.helper(0, 3));
        x.access(0, 20);
        due("the new trial", 9, x.helper(0, 5));
        due("1", 9, x.setTrial(1));
        due("undo", 3, x.undo());
        due("9 again", 9, x.count(11));
    }

    private static void promise7Pardon() {
        ParoleCache x = atWork();
        for (int wrong : WRONG) {
            due("helper " + wrong, UNKNOWN, x.pardon(wrong));
        }
        due("helper 1", UNKNOWN, x.pardon(1));
        due("at work", 2, x.pardon(0));
        facts("pardoned", x, 0, 2, 4, 1, 0, 0, 0, 4, 4, 0, 2, 2, 0, 0, 2, 0, 0);
        due("it is free", NONE, x.pardon(0));
        due("hours of all", 0, x.count(12));
        x.undo();
        due("undone", 2, x.helper(0, 4));
        due("not pardoned", 0, x.helper(0, 13));
        x = onProbation();
        due("on probation", 0, x.pardon(0));
        facts("pardoned", x, 0, 2, 4, 1, 0, 0, 0, 4, 4, 1, 2, 1, 0, 2, 0, 0, 1);
        due("free", NONE, x.pardon(0));
    }

    private static void promise8Forget() {
        ParoleCache x = new ParoleCache();
        x.addHelper(0, 1, 1);
        x.addHelper(1, 1, 1);
        x.addHelper(2, 1, 1);
        for (int wrong : WRONG) {
            due("helper " + wrong, UNKNOWN, x.forget(wrong));
        }
        due("helper 3", UNKNOWN, x.forget(3));
        due("kind 2", NOT_POSSIBLE, x.forget(2));
        due("an empty one", NONE, x.forget(0));
        due("an empty one", NONE, x.forget(1));
        due("three states", 3, x.count(14));
        x.access(0, 100);
        x.access(1, 200);
        x.access(1, 201);
        due("two programs", 2, x.forget(0));
        due("none of them", NONE, x.table(0, 0, 0));
        due("none of them", 0, x.helper(0, 14));
        due("two streams", 2, x.forget(1));
        due("again", NONE, x.forget(1));
        due("undo", 3, x.undo());
        row("back", x, 1, 1, NONE, 201, 1, 1);
        x.access(1, 202);
        row("from the beginning", x, 0, 0, 1, 202, 0, 0);
    }

    private static void promise9Access() {
        ParoleCache x = new ParoleCache();
        for (int wrong : WRONG) {
            due("program " + wrong, BAD, x.access(wrong, 0));
            due("line " + wrong, BAD, x.access(0, wrong));
        }
        due("program 16", BAD, x.access(16, 0));
        due("line 10000", BAD, x.access(0, 10000));
        due("no state", 0, x.count(14));
        due("a miss", 0, x.access(15, 9999));
        due("a hit", 1, x.access(0, 9999));
        due("a miss", 0, x.access(0, 3));
        set("two", x, 3, 9999, 3);
        due("a hit", 1, x.access(1, 9999));
        set("touched", x, 3, 3, 9999);
        due("a third", 0, x.access(2, 7));
        set("the oldest went", x, 3, 9999, 7);
        thrown("the oldest went", x, 3);
        due("a program threw it out", NONE, x.line(3, 5));
        due("again", 0, x.access(2, 3));
        thrown("3 is no thrown-out one", x, 9999);
        counts("five", x, 6, 2, 0, 4, 0, 2, 4, 2, 2, 0, 0, 3, 0, 1, 4, 0, 4);
        x = new ParoleCache();
        x.shape(1, 1);
        x.walk(0, 0, 1, 9);
        thrown("eight", x, 0, 1, 2, 3, 4, 5, 6, 7);
        x.access(0, 3);
        thrown("3 leaves before 8 comes", x, 0, 1, 2, 4, 5, 6, 7, 8);
        x.access(0, 9);
        thrown("a ninth", x, 1, 2, 4, 5, 6, 7, 8, 3);
    }

    private static void promise9Stride() {
        ParoleCache x = new ParoleCache();
        x.shape(8, 4);
        x.addHelper(0, 4, 1);
        x.access(0, 100);
        row("put in", x, 0, 0, 0, 100, 0, 0);
        x.access(0, 103);
        row("a stride", x, 0, 0, 0, 103, 3, 0);
        x.access(0, 106);
        row("trust 1", x, 0, 0, 0, 106, 3, 1);
        due("nothing yet", 0, x.logged(0, 3));
        x.access(0, 109);
        row("trust 2", x, 0, 0, 0, 109, 3, 2);
        due("four", 4, x.logged(0, 3));
        for (int line = 112; line <= 121; line += 3) {
            due("new " + line, 1, x.line(line, 1));
        }
        due("used", 2, x.access(0, 112));
        due("one more", 1, x.logged(0, 3));
        row("trust 3", x, 0, 0, 0, 112, 3, 3);
        due("used", 2, x.access(0, 115));
        row("at most 3", x, 0, 0, 0, 115, 3, 3);
        x.access(0, 500);
        row("less by 1", x, 0, 0, 0, 500, 3, 2);
        due("asked for also now", 4, x.logged(0, 3));
        due("by the old stride", 1, x.line(503, 1));
        x.access(0, 500);
        row("0 is not the stride", x, 0, 0, 0, 500, 3, 1);
        due("trust 1 asks nothing", 0, x.logged(0, 3));
        x.access(0, 510);
        row("another stride", x, 0, 0, 0, 510, 10, 0);
        x.access(0, 510);
        row("the stride 0", x, 0, 0, 0, 510, 0, 0);
        x.access(0, 510);
        row("gets no trust", x, 0, 0, 0, 510, 0, 0);
        x.walk(1, 7, -2, 4);
        row("to the edge", x, 0, 1, 1, 1, -2, 2);
        due("nothing below 0", 0, x.logged(0, 3));
        x.access(2, 0);
        x.access(2, 9999);
        row("the greatest", x, 0, 2, 2, 9999, 9999, 0);
        x.access(2, 0);
        row("the least", x, 0, 2, 2, 0, -9999, 0);
        x.access(3, 1);
        x.access(0, 1);
        x.access(4, 7);
        row("the oldest went", x, 0, 0, 2, 0, -9999, 0);
        row("then", x, 0, 1, 3, 1, 0, 0);
        row("then", x, 0, 2, 0, 1, -509, 0);
        row("then", x, 0, 3, 4, 7, 0, 0);
        row("no more", x, 0, 4, NONE, NONE, NONE, NONE);
    }

    private static void promise9Stream() {
        ParoleCache x = new ParoleCache();
        x.shape(8, 4);
        x.addHelper(1, 2, 1);
        x.access(0, 100);
        row("put in", x, 0, 0, NONE, 100, 0, 0);
        x.access(1, 103);
        row("a direction", x, 0, 0, NONE, 103, 1, 1);
        x.access(2, 107);
        row("4 away", x, 0, 0, NONE, 107, 1, 2);
        due("two", 2, x.logged(0, 3));
        due("an old hit", 1, x.access(0, 107));
        row("not looked at", x, 0, 0, NONE, 107, 1, 2);
        due("a new hit", 2, x.access(0, 108));
        row("looked at", x, 0, 0, NONE, 108, 1, 3);
        due("one more", 1, x.logged(0, 3));
        due("back", 0, x.access(0, 104));
        row("turned", x, 0, 0, NONE, 104, -1, 1);
        due("nothing", 0, x.logged(0, 3));
        due("an old hit", 1, x.access(0, 103));
        due("further", 0, x.access(0, 102));
        row("further", x, 0, 0, NONE, 102, -1, 2);
        due("100 is in", 1, x.logged(0, 3));
        due("101", 1, x.line(101, 1));
        x.access(0, 97);
        due("5 away", 2, x.helper(0, 14));
        x = new ParoleCache();
        x.addHelper(1, 1, 1);
        for (int k = 0; k <= 11; k++) {
            due("by fours", 0, x.access(0, 4 * k));
            due("the length", Math.min(k, 9), x.table(0, 0, 3));
        }
        x = new ParoleCache();
        x.addHelper(1, 1, 1);
        x.access(0, 300);
        x.flush();
        x.access(0, 300);
        row("the same line is not near", x, 0, 0, NONE, 300, 0, 0);
        row("the same line is not near", x, 0, 1, NONE, 300, 0, 0);
        x.access(0, 302);
        row("the latest touched", x, 0, 1, NONE, 302, 1, 1);
        x.access(0, 299);
        row("not the nearest", x, 0, 0, NONE, 300, 0, 0);
        row("not the nearest", x, 0, 1, NONE, 299, -1, 1);
        x = new ParoleCache();
        x.addHelper(1, 1, 1);
        x.walk(0, 10, 10, 3);
        x.access(0, 11);
        x.access(0, 50);
        row("the oldest went", x, 0, 0, NONE, 30, 0, 0);
        row("then", x, 0, 1, NONE, 11, 1, 1);
        row("then", x, 0, 2, NONE, 50, 0, 0);
        due("three", 3, x.helper(0, 14));
    }

    private static void promise9Next() {
        ParoleCache x = new ParoleCache();
        x.shape(8, 4);
        x.addHelper(2, 3, 1);
        due("a miss", 0, x.access(0, 9997));
        due("not 10000", 2, x.logged(0, 3));
        due("a new hit", 2, x.access(0, 9998));
        due("asks nothing", 0, x.logged(0, 3));
        due("an old hit", 1, x.access(0, 9998));
        due("has no table", NONE, x.table(0, 0, 0));
        x = new ParoleCache();
        x.shape(1, 4);
        x.addHelper(2, 1, 1);
        x.access(0, 6);
        x.access(0, 5);
        set("6 is not touched", x, 0, 6, 7, 5);
        due("nor fetched", 0, x.logged(0, 3));
        due("nor new", 0, x.line(6, 1));
    }

    private static void promise9Probation() {
        ParoleCache x = atWork();
        facts("at work", x, 0, 2, 4, 1, 2, 2, 0, 0, 4, 0, 2, 2, 0, 0, 0, 0, 0);
        due("used at work", 2, x.access(0, 9));
        facts("one hour", x, 0, 2, 4, 1, 2, 1, 0, 0, 4, 1, 2, 1, 0, 1, 0, 0, 0);
        due("an old hit", 1, x.access(0, 9));
        facts("on probation", x, 0, 2, 4, 1, 1, 0, 3, 1, 4, 1, 2, 1, 0, 2, 0, 0, 1);
        due("used", 2, x.access(0, 8));
        due("two left", 2, x.helper(0, 5));
        due("a miss", 0, x.access(0, 20));
        set("reach 1", x, 0, 20, 21);
        due("used", 2, x.access(0, 21));
        due("one left", 1, x.helper(0, 5));
        due("a miss", 0, x.access(0, 30));
        due("used", 2, x.access(0, 31));
        facts("free", x, 0, 2, 4, 1, 0, 0, 0, 4, 6, 4, 2, 0, 0, 2, 0, 0, 1);
        x = onProbation();
        due("8 goes unused", 0, x.access(0, 20));
        facts("at work again", x, 0, 2, 4, 1, 2, 1, 0, 0, 4, 1, 3, 0, 0, 2, 0, 0, 1);
        due("a hit", 1, x.access(0, 20));
        facts("on probation again", x, 0, 2, 4, 1, 1, 0, 3, 1, 4, 1, 3, 0, 0, 3, 0, 0, 2);
        x = new ParoleCache();
        x.shape(1, 1);
        x.addHelper(0, 1, 9);
        x.walk(0, 10, 2, 4);
        due("18 is fetched", 1, x.line(18, 1));
        x.access(0, 50);
        facts("nine hours", x, 0, 0, 1, 9, 2, 9, 0, 0, 1, 0, 1);
        x.access(0, 52);
        row("it learns at work", x, 0, 0, 0, 52, 2, 2);
        due("and fetches nothing", 0, x.logged(0, 3));
        due("eight hours", 8, x.helper(0, 4));
    }

    private static void promise9Harm() {
        ParoleCache x = new ParoleCache();
        x.shape(1, 2);
        x.addHelper(2, 2, 1);
        x.access(0, 5);
        set("5 is out already", x, 0, 6, 7);
        due("by the helper", 0, x.line(5, 5));
        facts("free", x, 0, 2, 2, 1, 0, 0);
        due("a miss", 0, x.access(0, 5));
        facts("harm", x, 0, 2, 2, 1, 2, 3, 0, 0, 2, 0, 1, 1, 1, 0, 0, 0, 0);
        due("by the program", NONE, x.line(6, 5));
        due("6 is thrown out", 0, x.line(6, 4));
        due("a miss", 0, x.access(0, 6));
        facts("no harm by a program", x, 0, 2, 2, 1, 2, 3, 0, 0, 2, 0, 2, 0, 1, 1, 0, 0, 0);
        thrown("6 is none", x, 7);
    }

    private static void promise9Order() {
        ParoleCache x = new ParoleCache();
        x.shape(1, 3);
        x.addHelper(2, 1, 1);
        x.addHelper(2, 2, 4);
        x.access(0, 5);
        set("both", x, 0, 5, 6, 7);
        due("the first", 0, x.line(6, 2));
        due("the second", 1, x.line(7, 2));
        x.access(0, 6);
        due("reach before", 2, x.helper(1, 6));
        x.access(0, 20);
        set("the second has no reach any more", x, 0, 6, 20, 21);
        due("hours", 4, x.helper(1, 4));
        due("one fetched", 1, x.logged(0, 3));
        x = new ParoleCache();
        x.shape(1, 2);
        x.addHelper(2, 1, 1);
        x.addHelper(2, 4, 2);
        x.access(0, 5);
        set("as far as the reach was", x, 0, 8, 9);
        facts("the first", x, 0, 2, 1, 1, 2, 1, 0, 0, 1, 0, 1, 0);
        facts("the second", x, 1, 2, 4, 2, 2, 2, 0, 0, 3, 0, 1, 2);
        x.access(0, 30);
        set("the first on probation", x, 0, 30, 31);
        facts("the first", x, 0, 2, 1, 1, 1, 0, 3, 1, 2, 0, 1, 1);
        facts("the second", x, 1, 2, 4, 2, 2, 5, 0, 0, 3, 0, 3, 0);
    }

    private static void promise10Walk() {
        ParoleCache x = new ParoleCache();
        for (int wrong : WRONG) {
            due("program " + wrong, BAD, x.walk(wrong, 0, 0, 1));
            due("line " + wrong, BAD, x.walk(0, wrong, 0, 1));
            due("stride " + wrong, wrong == -1 ? 0 : BAD, x.walk(0, 5000, wrong, 1));
            due("count " + wrong, BAD, x.walk(0, 0, 0, wrong));
        }
        x = new ParoleCache();
        due("program 16", BAD, x.walk(16, 0, 0, 1));
        due("line 10000", BAD, x.walk(0, 10000, 0, 1));
        due("stride 1000", BAD, x.walk(0, 0, 1000, 1));
        due("stride -1000", BAD, x.walk(0, 9999, -1000, 1));
        due("count 0", BAD, x.walk(0, 0, 0, 0));
        due("count 31", BAD, x.walk(0, 0, 0, 31));
        due("beyond 9999", BAD, x.walk(0, 0, 999, 12));
        due("beyond 9999", BAD, x.walk(0, 9999, 1, 2));
        due("below 0", BAD, x.walk(0, 9990, -999, 12));
        due("below 0", BAD, x.walk(0, 0, -1, 2));
        due("no state", 0, x.count(14));
        due("no access", 0, x.count(0));
        due("to 9990", 0, x.walk(15, 0, 999, 11));
        due("the last", 9990, x.logged(0, 1));
        due("the program", 15, x.logged(0, 0));
        due("one act", 1, x.count(14));
        due("down to 0, the eight that were kept", 8, x.walk(0, 9990, -999, 11));
        due("the last", 0, x.logged(0, 1));
        due("one line", 29, x.walk(0, 77, 0, 30));
        counts("three walks", x, 52, 37, 0, 15);
        due("undo", 2, x.undo());
        due("undo", 1, x.undo());
        counts("one walk", x, 11, 0, 0, 11);
        x = new ParoleCache();
        x.addHelper(2, 1, 1);
        due("new lines are hits, too", 2, x.walk(0, 40, 1, 4));
        due("two new ones", 2, x.count(2));
    }

    private static void promise11And12Text() {
        ParoleCache x = new ParoleCache();
        due("empty", 0, x.clearText());
        char[] signs = {0, ' ', 'a', 'z', 127, 233, 256, 0xd800, 0xffff};
        for (int i = 0; i < 80; i++) {
            due("any character", i + 1, x.type(signs[i % signs.length]));
        }
        due("full", FULL, x.type('a'));
        due("80", 80, x.count(15));
        due("no act", 0, x.count(14));
        due("cleared", 80, x.clearText());
        due("cleared", 0, x.clearText());
        due("empty", 0, x.count(15));
        due("no act", 0, x.count(14));
        x.access(0, 1);
        x.keep();
        typeAll(x, "b2");
        x.undo();
        due("undo leaves it", 2, x.count(15));
        x.restore();
        due("restore leaves it", 2, x.count(15));
        due("to be run", 0, x.run());
        due("b2", 2, x.logged(0, 1));
    }

    private static void fault(String text, int fault) {
        ParoleCache x = new ParoleCache();
        typeAll(x, text);
        due("run of '" + text + "'", -100 - fault, x.run());
        due("'" + text + "' is no act", 0, x.count(14));
        due("'" + text + "' does nothing", 0, x.count(0));
        due("'" + text + "' stays", text.length(), x.count(15));
    }

    private static void promise13Run() {
        String[] faulty = {"1", ",", "q1", "`1", "A1", " a1", "\uffff"};
        for (String text : faulty) {
            fault(text, 0);
        }
        fault("", 0);
        fault("a", 1);
        fault("p", 1);
        fault("aa", 1);
        fault("a,", 1);
        fault("a 1", 1);
        fault("a-1", 1);
        fault("a/", 1);
        fault("a:", 1);
        fault("a" + (char) 0x661, 1);
        fault("a1a", 2);
        fault("a1b2", 2);
        fault("a01", 2);
        fault("a00", 2);
        fault("a1;b2", 2);
        fault("a1 ", 2);
        fault("a0,", 3);
        fault("a1,,", 3);
        fault("a1, b2", 3);
        fault("a1,q2", 3);
        fault("a10000", 5);
        fault("a1,b2,c", 7);
        fault("a1,b2,c05", 8);
        fault("a9999,".repeat(13) + "a,", 79);
        fault("a10,".repeat(20), 80);
        ParoleCache x = new ParoleCache();
        typeAll(x, "p9999,a0,b10,a0,p9999,c123,d1234");
        due("two hits", 2, x.run());
        int[][] log = {{3, 1234}, {2, 123}, {15, 9999}, {0, 0}, {1, 10}, {0, 0}, {15, 9999}};
        for (int i = 0; i < log.length; i++) {
            due("program " + i, log[i][0], x.logged(i, 0));
            due("line " + i, log[i][1], x.logged(i, 1));
        }
        due("one act", 1, x.count(14));
        due("it stays", 32, x.count(15));
        x.run();
        due("twice", 14, x.count(0));
        x.undo();
        x.undo();
        due("undone", 0, x.count(0));
        typeAll(x, "a0,".repeat(26) + "a0");
        due("27 accesses", 26, x.run());
        typeAll(x, "a9999,".repeat(13) + "p7");
        due("80 characters", 12, x.run());
        x = new ParoleCache();
        x.addHelper(2, 1, 1);
        typeAll(x, "a5,a6,a6");
        due("new lines are hits, too", 2, x.run());
    }

    private static void promise14Undo() {
        ParoleCache x = new ParoleCache();
        due("empty", NONE, x.undo());
        x.addHelper(1, 1, 1);
        x.setDegree(0, 2);
        x.setTrial(5);
        x.access(0, 1);
        x.walk(0, 2, 1, 2);
        x.flush();
        due("at most 4", 4, x.count(14));
        due("flush undone", 3, x.undo());
        due("three lines, and two ahead", 5, x.count(8));
        due("walk undone", 2, x.undo());
        counts("one access", x, 1, 0, 0, 1, 0, 0, 4, 2, 1, 0, 1, 5, 0, 0, 2, 0, 1);
        row("one access", x, 0, 0, NONE, 1, 0, 0);
        due("the log", NONE, x.logged(1, 0));
        due("access undone", 1, x.undo());
        due("no stream", 0, x.helper(0, 14));
        due("trial undone", 0, x.undo());
        due("3", 3, x.count(11));
        due("the oldest ones were dropped", NONE, x.undo());
        due("degree", 2, x.helper(0, 1));
        x.access(0, 1);
        x.access(16, 1);
        x.flush();
        x.flush();
        x.wouldHit(0, 1, 1, 3);
        x.wouldAsk(0, 0, 1, 0);
        x.type('a');
        x.run();
        x.keep();
        due("what records nothing", 2, x.count(14));
        x.forget(0);
        x.pardon(0);
        due("forget does", 3, x.count(14));
        due("undo", 2, x.undo());
        x.restore();
        due("restore does", 3, x.count(14));
    }

    private static int act(ParoleCache x, int number) {
        switch (number) {
            case 0: return x.access(4, 77);
            case 1: return x.walk(5, 600, 1, 25);
            case 2: return x.flush();
            case 3: return x.shape(7, 4);
            case 4: return x.setDegree(0, 2);
            case 5: return x.setTrial(6);
            case 6: return x.forget(0);
            case 7: return x.forget(1);
            case 8: return x.run();
            case 9: return x.restore();
            case 10: return x.pardon(5);
            default: return x.undo();
        }
    }

    private static int refused(ParoleCache x, int number) {
        switch (number) {
            case 0: return x.access(16, 77);
            case 1: return x.walk(5, 9990, 1, 25);
            case 2: return x.shape(2, 3);
            case 3: return x.shape(9, 3);
            case 4: return x.setDegree(0, 4);
            case 5: return x.setTrial(3);
            case 6: return x.forget(2);
            case 7: return x.addHelper(1, 1, 1);
            default: return x.pardon(6);
        }
    }

    private static ParoleCache busyWithText(int number) {
        ParoleCache x = busy();
        typeAll(x, "a101,b102,c9");
        if (number == 9) {
            x.keep();
            x.walk(9, 900, 2, 7);
        }
        return x;
    }

    private static void promise14UndoBringsAllBack() {
        for (int act = 0; act <= 10; act++) {
            int number = act;
            Maker acted = () -> {
                ParoleCache x = busyWithText(number);
                due("act " + number, 1, act(x, number) > -100 ? 1 : 0);
                due("act " + number + " is recorded", 4, x.count(14));
                return x;
            };
            String before = told(() -> busyWithText(number));
            due("act " + number + " does something", 0, before.equals(told(acted)) ? 1 : 0);
            same("undo of act " + number, before, () -> {
                ParoleCache x = acted.make();
                due("undo", 3, x.undo());
                return x;
            });
            same("restore behind act " + number, told(Answers::busy), () -> {
                ParoleCache x = busy();
                x.keep();
                x.walk(0, 5000, 7, 30);
                typeAll(x, "a101,b102,c9");
                act(x, number);
                x.restore();
                return x;
            });
        }
    }

    private static void promise14RefusedCallsChangeNothing() {
        Maker undone = () -> {
            ParoleCache x = busy();
            x.undo();
            due("two left", 2, x.undo());
            return x;
        };
        String before = told(undone);
        for (int call = 0; call <= 8; call++) {
            int number = call;
            same("refused " + number, before, () -> {
                ParoleCache x = undone.make();
                due("refused " + number, 1, refused(x, number) <= -100001 ? 1 : 0);
                due("refused " + number + " is not recorded", 2, x.count(14));
                return x;
            });
        }
        same("what is told", before, () -> {
            ParoleCache x = undone.make();
            x.wouldHit(1, 100, 1, 30);
            x.wouldAsk(5, 1, 100, 0);
            x.bestHelper();
            x.keep();
            due("not recorded", 2, x.count(14));
            return x;
        });
    }

    private static void promise15And16Snapshot() {
        ParoleCache x = new ParoleCache();
        due("none", NONE, x.restore());
        due("no state", 0, x.count(14));
        due("no access", 0, x.keep());
        x.addHelper(2, 4, 1);
        x.shape(1, 2);
        x.access(0, 5);
        x.setTrial(7);
        due("one access", 1, x.keep());
        x.undo();
        x.access(0, 5);
        x.access(0, 6);
        due("restored", 1, x.restore());
        counts("restored", x, 1, 0, 0, 1, 4, 3, 1, 2, 2, 2, 1, 7, 2, 3, 4, 0, 1);
        set("restored", x, 0, 8, 9);
        thrown("restored", x, 5, 6, 7);
        facts("restored", x, 0, 2, 4, 1, 2, 2, 0, 0, 4, 0, 2, 2);
        x.access(0, 8);
        due("it stays", 1, x.restore());
        due("it stays", 1, x.restore());
        due("an act", 3, x.undo());
        due("an act", 2, x.undo());
        due("two accesses", 2, x.count(0));
        due("in its place", 2, x.keep());
        x.access(0, 8);
        due("in its place", 2, x.restore());
    }

    private static void promise17Line() {
        ParoleCache x = new ParoleCache();
        x.shape(1, 3);
        x.addHelper(2, 2, 1);
        x.addHelper(2, 3, 1);
        x.access(0, 5);
        set("6 by the first, 8 by the second", x, 0, 6, 7, 8);
        int[][] wanted = {{5, 0, 0, NONE, NONE, 0, 1}, {6, 1, 1, 0, 0, NONE, NONE}, {8, 1, 1, 1, 2, NONE, NONE},
            {9, 0, 0, NONE, NONE, NONE, NONE}, {0, 0, 0, NONE, NONE, NONE, NONE}};
        for (int[] one : wanted) {
            for (int what = 0; what <= 5; what++) {
                due("line(" + one[0] + ", " + what + ")", one[what + 1], x.line(one[0], what));
            }
        }
        x.access(0, 6);
        due("used, not new", 0, x.line(6, 1));
        due("and still by the helper", 0, x.line(6, 2));
        due("the latest", 2, x.line(6, 3));
        x.access(0, 9999);
        due("by a program", NONE, x.line(9999, 2));
        due("in", 1, x.line(9999, 0));
        due("second among the thrown-out", 1, x.line(7, 4));
        due("by a program", NONE, x.line(7, 5));
        for (int wrong : WRONG) {
            due("line " + wrong, UNKNOWN, x.line(wrong, 0));
            due("what " + wrong, BAD, x.line(0, wrong));
            due("both " + wrong, UNKNOWN, x.line(wrong, wrong));
        }
        due("line 10000", UNKNOWN, x.line(10000, 0));
        due("what 6", BAD, x.line(6, 6));
    }

    private static void promise18InSet() {
        ParoleCache x = new ParoleCache();
        x.access(0, 9);
        x.access(0, 1);
        due("the oldest", 9, x.inSet(1, 0));
        due("the next", 1, x.inSet(1, 1));
        due("no more", NONE, x.inSet(1, 2));
        due("an empty set", NONE, x.inSet(0, 0));
        due("far", NONE, x.inSet(1, Integer.MAX_VALUE));
        due("place -1", BAD, x.inSet(1, -1));
        due("place", BAD, x.inSet(1, Integer.MIN_VALUE));
        for (int wrong : WRONG) {
            due("set " + wrong, UNKNOWN, x.inSet(wrong, -1));
        }
        due("set 4", UNKNOWN, x.inSet(4, 0));
        x.shape(8, 2);
        due("set 7", NONE, x.inSet(7, 0));
        due("set 8", UNKNOWN, x.inSet(8, 0));
    }

    private static void promise19ThrownOut() {
        ParoleCache x = new ParoleCache();
        due("none", NONE, x.thrownOut(0));
        due("-1", BAD, x.thrownOut(-1));
        due("the least", BAD, x.thrownOut(Integer.MIN_VALUE));
        due("far", NONE, x.thrownOut(Integer.MAX_VALUE));
        x.walk(0, 0, 4, 12);
        thrown("the latest 8", x, 8, 12, 16, 20, 24, 28, 32, 36);
        x.access(0, 24);
        thrown("24 came in", x, 8, 12, 16, 20, 28, 32, 36, 40);
        x.access(0, 48);
        x.access(0, 52);
        thrown("24 is out again", x, 16, 20, 28, 32, 36, 40, 44, 24);
    }

    private static void promise20Helper() {
        ParoleCache x = onProbation();
        facts("all", x, 0, 2, 4, 1, 1, 0, 3, 1, 4, 1, 2, 1, 0, 2, 0, 0, 1);
        due("what 16", BAD, x.helper(0, 16));
        for (int wrong : WRONG) {
            due("helper " + wrong, UNKNOWN, x.helper(wrong, 99));
            due("what " + wrong, BAD, x.helper(0, wrong));
        }
        due("helper 1", UNKNOWN, x.helper(1, 0));
        x.addHelper(0, 2, 1);
        x.addHelper(1, 2, 1);
        x.walk(3, 100, 7, 3);
        due("a program", 1, x.helper(1, 14));
        due("three streams", 3, x.helper(2, 14));
        due("no table", 0, x.helper(0, 14));
    }

    private static void promise21Table() {
        ParoleCache x = new ParoleCache();
        x.addHelper(0, 1, 1);
        x.addHelper(1, 1, 1);
        x.addHelper(2, 1, 1);
        x.walk(5, 100, -3, 3);
        x.access(6, 200);
        row("a program", x, 0, 0, 5, 94, -3, 1);
        row("a program", x, 0, 1, 6, 200, 0, 0);
        row("a stream", x, 1, 0, NONE, 94, -1, 2);
        row("a stream", x, 1, 1, NONE, 200, 0, 0);
        row("no more", x, 1, 2, NONE, NONE, NONE, NONE);
        row("no table", x, 2, 0, NONE, NONE, NONE, NONE);
        for (int wrong : WRONG) {
            due("helper " + wrong, UNKNOWN, x.table(wrong, -1, -1));
            due("what " + wrong, BAD, x.table(0, 0, wrong));
        }
        due("helper 3", UNKNOWN, x.table(3, 0, 0));
        due("what 4", BAD, x.table(0, 0, 4));
        due("what 4 without a table", BAD, x.table(2, 0, 4));
        due("place -1", BAD, x.table(0, -1, 0));
        due("place", BAD, x.table(2, Integer.MIN_VALUE, 0));
        due("far", NONE, x.table(0, Integer.MAX_VALUE, 0));
        x.access(5, 91);
        row("touched", x, 0, 0, 6, 200, 0, 0);
        row("touched", x, 0, 1, 5, 91, -3, 2);
    }

    private static void promise22WouldAsk() {
        ParoleCache x = new ParoleCache();
        x.shape(8, 4);
        due("none", UNKNOWN, x.wouldAsk(0, 0, 0, 0));
        x.addHelper(2, 3, 1);
        for (int wrong : WRONG) {
            due("helper " + wrong, UNKNOWN, x.wouldAsk(wrong, -1, -1, -1));
            due("program " + wrong, BAD, x.wouldAsk(0, wrong, 0, 0));
            due("line " + wrong, BAD, x.wouldAsk(0, 0, wrong, 0));
            due("place " + wrong, wrong < 0 ? BAD : NONE, x.wouldAsk(0, 0, 0, wrong));
        }
        due("program 16", BAD, x.wouldAsk(0, 16, 0, 0));
        due("line 10000", BAD, x.wouldAsk(0, 0, 10000, 0));
        x.access(0, 11);
        due("in the cache", 11, x.wouldAsk(0, 0, 10, 0));
        due("in the cache", 12, x.wouldAsk(0, 0, 10, 1));
        due("in the cache", 13, x.wouldAsk(0, 0, 10, 2));
        due("no more", NONE, x.wouldAsk(0, 0, 10, 3));
        due("a hit", NONE, x.wouldAsk(0, 0, 12, 0));
        due("up to 9999", 9999, x.wouldAsk(0, 0, 9998, 0));
        due("not beyond", NONE, x.wouldAsk(0, 0, 9998, 1));
        x.addHelper(0, 4, 1);
        x.walk(7, 8, -2, 3);
        due("a stride", 0, x.wouldAsk(1, 7, 2, 0));
        due("not below 0", NONE, x.wouldAsk(1, 7, 2, 1));
        due("another program", NONE, x.wouldAsk(1, 6, 2, 0));
        due("nothing is learned", 1, x.table(1, 0, 3));
        due("no access", 4, x.count(0));
        x = new ParoleCache();
        x.addHelper(2, 2, 1);
        x.access(0, 8);
        x.flush();
        due("two hours", 2, x.helper(0, 4));
        due("at work", NONE, x.wouldAsk(0, 0, 100, 0));
        x.access(0, 100);
        due("one hour", 1, x.helper(0, 4));
        due("on probation then", 201, x.wouldAsk(0, 0, 200, 0));
        due("reach 1", NONE, x.wouldAsk(0, 0, 200, 1));
        due("still at work", 2, x.helper(0, 3));
        x = new ParoleCache();
        x.shape(1, 3);
        x.addHelper(2, 1, 1);
        x.addHelper(2, 2, 4);
        x.access(0, 5);
        x.access(0, 6);
        due("the first", 21, x.wouldAsk(0, 0, 20, 0));
        due("the second gets hours before", NONE, x.wouldAsk(1, 0, 20, 0));
        x = atWork();
        x.pardon(0);
        due("hours by this access", NONE, x.wouldAsk(0, 0, 5, 0));
    }

    private static void promise23WouldHit() {
        ParoleCache x = new ParoleCache();
        for (int wrong : WRONG) {
            due("program " + wrong, BAD, x.wouldHit(wrong, 0, 0, 1));
            due("line " + wrong, BAD, x.wouldHit(0, wrong, 0, 1));
            due("stride " + wrong, wrong == -1 ? 0 : BAD, x.wouldHit(0, 0, wrong, 1));
            due("count " + wrong, BAD, x.wouldHit(0, 0, 0, wrong));
        }
        due("program 16", BAD, x.wouldHit(16, 0, 0, 1));
        due("line 10000", BAD, x.wouldHit(0, 10000, 0, 1));
        due("stride 1000", BAD, x.wouldHit(0, 0, 1000, 1));
        due("count 0", BAD, x.wouldHit(0, 0, 0, 0));
        due("count 31", BAD, x.wouldHit(0, 0, 0, 31));
        due("beyond 9999", BAD, x.wouldHit(0, 9970, 1, 31));
        due("beyond 9999", BAD, x.wouldHit(0, 9971, 1, 30));
        due("up to 9999", 0, x.wouldHit(0, 9970, 1, 30));
        x.addHelper(0, 2, 2);
        due("one line", 29, x.wouldHit(0, 5, 0, 30));
        due("a stride", 6, x.wouldHit(0, 100, 1, 10));
        counts("nothing is changed", x, 0, 0, 0, 0, 0, 0, 4, 2, 0, 0, 1, 3, 0, 0, 1, 0, 0);
        due("as the walk", 6, x.walk(0, 100, 1, 10));
        due("then", x.wouldHit(0, 110, 1, 5), x.walk(0, 110, 1, 5));
    }

    private static void promise24BestHelper() {
        ParoleCache x = new ParoleCache();
        due("none", NONE, x.bestHelper());
        x.shape(8, 4);
        x.addHelper(0, 1, 1);
        due("one", 0, x.bestHelper());
        x.addHelper(2, 1, 1);
        x.addHelper(1, 4, 1);
        due("the lowest one", 0, x.bestHelper());
        x.access(0, 5);
        x.access(0, 6);
        due("one used", 1, x.bestHelper());
        x.access(0, 50);
        x.flush();
        due("one in vain", 0, x.helper(1, 8) - x.helper(1, 9));
        due("the lowest one", 0, x.bestHelper());
        x = atWork();
        due("less than 0", 0, x.bestHelper());
        x.addHelper(0, 1, 1);
        due("0 is more", 1, x.bestHelper());
    }

    private static void promise25Logged() {
        ParoleCache x = new ParoleCache();
        due("none", NONE, x.logged(0, 0));
        x.addHelper(2, 2, 1);
        x.access(3, 40);
        x.access(4, 41);
        x.access(5, 41);
        int[][] wanted = {{5, 41, 1, 0, 2}, {4, 41, 2, 0, 1}, {3, 40, 0, 2, 0}};
        for (int back = 0; back < 3; back++) {
            for (int what = 0; what < 5; what++) {
                due("logged(" + back + ", " + what + ")", wanted[back][what], x.logged(back, what));
            }
        }
        due("no more", NONE, x.logged(3, 0));
        due("back -1", BAD, x.logged(-1, 0));
        due("back", BAD, x.logged(Integer.MIN_VALUE, 0));
        due("far", NONE, x.logged(Integer.MAX_VALUE, 4));
        due("what 5", BAD, x.logged(0, 5));
        due("what 5, far", BAD, x.logged(99, 5));
        for (int wrong : WRONG) {
            due("what " + wrong, BAD, x.logged(0, wrong));
        }
        x.walk(1, 100, 10, 12);
        due("the latest", 14, x.logged(0, 4));
        due("the latest line", 210, x.logged(0, 1));
        due("the oldest one known", 3, x.logged(11, 4));
        due("the oldest line known", 100, x.logged(11, 1));
        due("not known any more", NONE, x.logged(12, 4));
        x.undo();
        due("undone", 2, x.logged(0, 4));
        due("undone", NONE, x.logged(3, 4));
    }

    private static void promise26Count() {
        ParoleCache x = new ParoleCache();
        for (int wrong : WRONG) {
            due("what " + wrong, BAD, x.count(wrong));
        }
        due("what 17", BAD, x.count(17));
        x.shape(1, 2);
        x.addHelper(2, 4, 1);
        x.addHelper(2, 1, 1);
        x.setTrial(8);
        x.type('a');
        x.access(2, 5);
        // The first fetches 6 to 9 and throws out 5, 6 and 7; the second one asks for 6 and throws out 8.
        set("then", x, 0, 9, 6);
        counts("one access", x, 1, 0, 0, 1, 5, 4, 1, 2, 2, 2, 2, 8, 3, 3, 4, 1, 1);
        x.access(2, 9);
        x.access(4, 9);
        counts("three accesses", x, 3, 2, 1, 1, 5, 4, 1, 2, 2, 1, 2, 8, 1, 3, 4, 1, 2);
        x.walk(7, 9, 0, 12);
        due("one program in the log", 1, x.count(16));
        x.access(15, 9);
        x.access(0, 9);
        due("three programs in the log", 3, x.count(16));
    }
}
