/** Long runs of calls, good and wild ones, on the program and on the model; every answer must be the same. */
public final class ModelTest {
    private static final int RUNS = 500;
    private static final int CALLS = 400;
    private static final int[] WILD = {Integer.MIN_VALUE, Integer.MIN_VALUE + 1, -100005, -1000, -999, -1, 0, 1, 2, 3, 4,
        5, 6, 8, 9, 10, 12, 15, 16, 17, 30, 31, 999, 1000, 9998, 9999, 10000, Integer.MAX_VALUE - 1, Integer.MAX_VALUE};

    private final Checks checks;
    private final int run;
    private long seed;
    private final ParoleCache program = new ParoleCache();
    private final Model model = new Model();
    private final int base;
    private final int spread;
    private String trail = "";

    private ModelTest(Checks checks, int run) {
        this.checks = checks;
        this.run = run;
        this.seed = run * 7919L + 17;
        this.base = run % 5 == 0 ? 9980 : run % 5 == 1 ? 0 : 300;
        this.spread = run % 3 == 0 ? 12 : run % 3 == 1 ? 20 : 60;
    }

    public static void main(String[] args) {
        Checks checks = new Checks();
        for (int run = 0; run < RUNS && checks.wrong() == 0; run++) {
            new ModelTest(checks, run).go();
        }
        checks.close("ModelTest");
    }

    private int below(int bound) {
        seed = seed * 6364136223846793005L + 1442695040888963407L;
        return (int) ((seed >>> 33) % bound);
    }

    /** A number from least to greatest, or, now and then, a wild one. */
    private int number(int least, int greatest) {
        return below(60) == 0 ? WILD[below(WILD.length)] : least + below(greatest - least + 1);
    }

    private int aLine() {
        int line = base + below(spread);
        return below(60) == 0 ? WILD[below(WILD.length)] : Math.min(line, 9999);
    }

    private int aProgram() {
        return below(4) == 0 ? number(0, 15) : number(0, 5);
    }

    private int aStride() {
        return below(12) == 0 ? number(-999, 999) : number(-3, 3);
    }

    private void go() {
        int helpers = below(6) + 1;
        if (run % 4 == 0) {
            shape(1 + below(2), 1 + below(3));
        }
        for (int i = 0; i < helpers && run % 7 != 0; i++) {
            addHelper(below(3), 1 + below(4), 1 + below(run % 2 == 0 ? 2 : 9));
        }
        for (int i = 0; i < CALLS && checks.wrong() == 0; i++) {
            step();
            look();
            if (i % 40 == 39) {
                lookAtAll();
            }
        }
        lookAtAll();
        if (checks.wrong() != 0) {
            System.out.println("run " + run + ":" + trail);
        }
    }

    private void step() {
        int what = below(100);
        if (what < 35) {
            access(aProgram(), aLine());
        } else if (what < 60) {
            walk(aProgram(), aLine(), aStride(), below(3) == 0 ? number(1, 30) : number(1, 6));
        } else if (what < 72) {
            changeHelpers();
        } else if (what < 82) {
            changeHistory();
        } else if (what < 94) {
            write();
        } else if (what < 96) {
            due("run()", model.run(), program.run());
        } else {
            due("clearText()", model.clearText(), program.clearText());
        }
    }

    private void changeHelpers() {
        int h = number(0, 6);
        switch (below(8)) {
            case 0: addHelper(number(0, 2), number(1, 4), number(1, 9)); break;
            case 1: int d = number(1, 4);
                due("setDegree(" + h + "," + d + ")", model.setDegree(h, d), program.setDegree(h, d)); break;
            case 2: int t = number(1, 9);
                due("setTrial(" + t + ")", model.setTrial(t), program.setTrial(t)); break;
            case 3: due("pardon(" + h + ")", model.pardon(h), program.pardon(h)); break;
            case 4: due("forget(" + h + ")", model.forget(h), program.forget(h)); break;
            case 5: if (below(2) == 0) { shape(number(1, 8), number(1, 4)); } break;
            case 6: if (below(2) == 0) { due("flush()", model.flush(), program.flush()); } break;
            default: break;
        }
    }

    private void changeHistory() {
        int what = below(4);
        if (what == 0) {
            due("keep()", model.keep(), program.keep());
        } else if (what == 1) {
            due("restore()", model.restore(), program.restore());
        } else {
            due("undo()", model.undo(), program.undo());
        }
    }

    /** Writes an access, mostly a good one, behind the text, and sometimes does the text. */
    private void write() {
        if (below(3) > 0) {
            due("clearText()", model.clearText(), program.clearText());
        }
        int accesses = 1 + below(25);
        for (int i = 0; i < accesses; i++) {
            String one = (i > 0 ? "," : "") + (char) ('a' + below(4)) + Math.min(base + below(spread), 9999);
            for (int k = 0; k < one.length(); k++) {
                char c = one.charAt(k);
                if (below(250) == 0) {
                    c = ",ap q0129/:`Z\u00e9\uffff\u0000".charAt(below(16));
                }
                due("type(" + (int) c + ")", model.type(c), program.type(c));
            }
        }
        if (model.text.length() < 80 || below(4) == 0) {
            due("run()", model.run(), program.run());
        }
    }

    private void addHelper(int kind, int degree, int price) {
        due("addHelper(" + kind + "," + degree + "," + price + ")",
            model.addHelper(kind, degree, price), program.addHelper(kind, degree, price));
    }

    private void shape(int sets, int ways) {
        due("shape(" + sets + "," + ways + ")", model.shape(sets, ways), program.shape(sets, ways));
    }

    private void access(int p, int line) {
        due("access(" + p + "," + line + ")", model.access(p, line), program.access(p, line));
    }

    private void walk(int p, int line, int stride, int count) {
        String call = "(" + p + "," + line + "," + stride + "," + count + ")";
        due("wouldHit" + call, model.wouldHit(p, line, stride, count), program.wouldHit(p, line, stride, count));
        due("walk" + call, model.walk(p, line, stride, count), program.walk(p, line, stride, count));
    }

    /** A few things that are told, drawn anew behind each call. */
    private void look() {
        int h = number(0, 6);
        int place = number(0, 4);
        int p = aProgram();
        int line = aLine();
        int what = number(0, 16);
        due("wouldAsk(" + h + "," + p + "," + line + "," + place + ")",
            model.wouldAsk(h, p, line, place), program.wouldAsk(h, p, line, place));
        due("line(" + line + "," + what + ")", model.line(line, what), program.line(line, what));
        due("count(" + what + ")", model.count(what), program.count(what));
        due("helper(" + h + "," + what + ")", model.helper(h, what), program.helper(h, what));
        due("table(" + h + "," + place + "," + what + ")", model.table(h, place, what), program.table(h, place, what));
        due("logged(" + place + "," + what + ")", model.logged(place, what), program.logged(place, what));
        due("inSet(" + h + "," + place + ")", model.inSet(h, place), program.inSet(h, place));
        due("thrownOut(" + place + ")", model.thrownOut(place), program.thrownOut(place));
    }

    private void lookAtAll() {
        for (int what = -1; what <= 17; what++) {
            due("count(" + what + ")", model.count(what), program.count(what));
            for (int h = -1; h <= 6; h++) {
                due("helper(" + h + "," + what + ")", model.helper(h, what), program.helper(h, what));
                for (int place = -1; place <= 4; place++) {
                    due("table(" + h + "," + place + "," + what + ")",
                        model.table(h, place, what), program.table(h, place, what));
                }
            }
            for (int back = -1; back <= 13; back++) {
                due("logged(" + back + "," + what + ")", model.logged(back, what), program.logged(back, what));
            }
        }
        for (int place = -1; place <= 9; place++) {
            due("thrownOut(" + place + ")", model.thrownOut(place), program.thrownOut(place));
            for (int set = -1; set <= 8; set++) {
                due("inSet(" + set + "," + place + ")", model.inSet(set, place), program.inSet(set, place));
            }
        }
        for (int line = base - 1; line <= base + spread; line++) {
            for (int what = -1; what <= 6; what++) {
                due("line(" + line + "," + what + ")", model.line(line, what), program.line(line, what));
            }
        }
        due("bestHelper()", model.bestHelper(), program.bestHelper());
    }

    private void due(String call, int want, int got) {
        if (checks.wrong() == 0 && !call.startsWith("type") && trail.length() < 20000) {
            trail += isTold(call) ? "" : " " + call;
        }
        checks.due("run " + run + ": " + call, want, got);
    }

    private static boolean isTold(String call) {
        for (String name : new String[] {"count", "helper", "table", "logged", "thrownOut", "inSet", "line", "would",
            "bestHelper"}) {
            if (call.startsWith(name)) {
                return true;
            }
        }
        return false;
    }
}
