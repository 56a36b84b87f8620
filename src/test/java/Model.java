import java.util.ArrayList;
import java.util.Comparator;
import java.util.HashSet;
import java.util.List;
import java.util.Set;

/**
 * The document once more, in another form than the program's: touches are stamps, states are deep copies,
 * and every answer is looked up afresh. ModelTest compares the program with it.
 */
final class Model {
    static final int UNKNOWN = -100001;
    static final int BAD = -100002;
    static final int FULL = -100003;
    static final int NOT_POSSIBLE = -100004;
    static final int NONE = -100005;

    static final class Held {
        int line;
        int by;
        boolean fresh;
        long stamp;

        Held copy() {
            Held h = new Held();
            h.line = line;
            h.by = by;
            h.fresh = fresh;
            h.stamp = stamp;
            return h;
        }
    }

    static final class Row {
        int program;
        int latest;
        int step;
        int strength;
        long stamp;

        Row copy() {
            Row r = new Row();
            r.program = program;
            r.latest = latest;
            r.step = step;
            r.strength = strength;
            r.stamp = stamp;
            return r;
        }
    }

    static final class Worker {
        int kind;
        int degree;
        int price;
        int hours;
        int probationLines;
        int fetched;
        int used;
        int vain;
        int harms;
        int worked;
        int pardoned;
        int probations;
        List<Row> rows = new ArrayList<>();
        List<Integer> asks = new ArrayList<>();

        Worker copy() {
            Worker w = new Worker();
            w.kind = kind;
            w.degree = degree;
            w.price = price;
            w.hours = hours;
            w.probationLines = probationLines;
            w.fetched = fetched;
            w.used = used;
            w.vain = vain;
            w.harms = harms;
            w.worked = worked;
            w.pardoned = pardoned;
            w.probations = probations;
            for (Row r : rows) {
                w.rows.add(r.copy());
            }
            return w;
        }

        int state() {
            return hours > 0 ? 2 : probationLines > 0 ? 1 : 0;
        }

        int reach() {
            return hours > 0 ? 0 : probationLines > 0 ? 1 : degree;
        }

        void getHours(int n) {
            hours += n;
            probationLines = 0;
        }
    }

    static final class World {
        int sets = 4;
        int ways = 2;
        int trial = 3;
        long clock = 0;
        int hits = 0;
        int newHits = 0;
        int thrownCount = 0;
        List<Held> held = new ArrayList<>();
        List<int[]> exiles = new ArrayList<>();
        List<Worker> workers = new ArrayList<>();
        List<int[]> allAccesses = new ArrayList<>();

        World copy() {
            World w = new World();
            w.sets = sets;
            w.ways = ways;
            w.trial = trial;
            w.clock = clock;
            w.hits = hits;
            w.newHits = newHits;
            w.thrownCount = thrownCount;
            for (Held h : held) {
                w.held.add(h.copy());
            }
            w.exiles.addAll(exiles);
            for (Worker k : workers) {
                w.workers.add(k.copy());
            }
            w.allAccesses.addAll(allAccesses);
            return w;
        }

        Held find(int line) {
            for (Held h : held) {
                if (h.line == line) {
                    return h;
                }
            }
            return null;
        }

        List<Held> inSet(int set) {
            List<Held> found = new ArrayList<>();
            for (Held h : held) {
                if (h.line % sets == set) {
                    found.add(h);
                }
            }
            found.sort(Comparator.comparingLong(h -> h.stamp));
            return found;
        }

        int exile(int line) {
            for (int i = 0; i < exiles.size(); i++) {
                if (exiles.get(i)[0] == line) {
                    return i;
                }
            }
            return -1;
        }

        void throwOut(Held h, int by) {
            held.remove(h);
            if (exile(h.line) >= 0) {
                exiles.remove(exile(h.line));
            }
            exiles.add(new int[] {h.line, by});
            if (exiles.size() > 8) {
                exiles.remove(0);
            }
            thrownCount++;
            if (h.fresh) {
                Worker w = workers.get(h.by);
                w.vain++;
                w.getHours(w.price);
            }
        }

        void fetch(int line, int by) {
            if (exile(line) >= 0) {
                exiles.remove(exile(line));
            }
            List<Held> set = inSet(line % sets);
            if (set.size() == ways) {
                throwOut(set.get(0), by);
            }
            Held h = new Held();
            h.line = line;
            h.by = by;
            h.fresh = by != NONE;
            h.stamp = ++clock;
            held.add(h);
        }

        int flush() {
            int n = 0;
            for (int s = 0; s < sets; s++) {
                for (Held h : inSet(s)) {
                    throwOut(h, NONE);
                    n++;
                }
            }
            return n;
        }

        int access(int program, int line) {
            for (Worker w : workers) {
                w.asks.clear();
                if (w.hours > 0) {
                    w.hours--;
                    w.worked++;
                    if (w.hours == 0) {
                        w.probationLines = trial;
                        w.probations++;
                    }
                }
            }
            int outcome = touchOrFetch(line);
            int ahead = 0;
            for (int i = 0; i < workers.size(); i++) {
                Worker w = workers.get(i);
                learn(w, program, line, outcome);
                for (int wanted : w.asks) {
                    if (find(wanted) == null) {
                        fetch(wanted, i);
                        w.fetched++;
                        ahead++;
                    }
                }
            }
            allAccesses.add(new int[] {program, line, outcome, ahead, allAccesses.size()});
            hits += outcome > 0 ? 1 : 0;
            newHits += outcome == 2 ? 1 : 0;
            return outcome;
        }

        private int touchOrFetch(int line) {
            Held h = find(line);
            if (h == null) {
                int e = exile(line);
                if (e >= 0 && exiles.get(e)[1] != NONE) {
                    Worker w = workers.get(exiles.get(e)[1]);
                    w.getHours(2);
                    w.harms++;
                }
                fetch(line, NONE);
                return 0;
            }
            h.stamp = ++clock;
            if (!h.fresh) {
                return 1;
            }
            h.fresh = false;
            Worker w = workers.get(h.by);
            w.used++;
            if (w.probationLines > 0) {
                w.probationLines--;
            }
            return 2;
        }

        private void learn(Worker w, int program, int line, int outcome) {
            int step = 0;
            if (w.kind == 2) {
                step = outcome == 0 ? 1 : 0;
            } else if (w.kind == 1) {
                step = outcome == 1 ? 0 : learnStream(w, line);
            } else {
                step = learnStride(w, program, line);
            }
            for (int k = 1; step != 0 && k <= w.reach(); k++) {
                int wanted = line + k * step;
                if (wanted >= 0 && wanted <= 9999) {
                    w.asks.add(wanted);
                }
            }
        }

        private void put(Worker w, int most, int program, int line) {
            if (w.rows.size() == most) {
                w.rows.sort(Comparator.comparingLong(r -> r.stamp));
                w.rows.remove(0);
            }
            Row r = new Row();
            r.program = program;
            r.latest = line;
            r.stamp = ++clock;
            w.rows.add(r);
        }

        private int learnStride(Worker w, int program, int line) {
            Row known = null;
            for (Row r : w.rows) {
                if (r.program == program) {
                    known = r;
                }
            }
            if (known == null) {
                put(w, 4, program, line);
                return 0;
            }
            int d = line - known.latest;
            if (d != 0 && d == known.step) {
                if (known.strength < 3) {
                    known.strength++;
                }
            } else {
                if (known.strength > 0) {
                    known.strength--;
                }
                if (known.strength == 0) {
                    known.step = d;
                }
            }
            known.latest = line;
            known.stamp = ++clock;
            return known.strength >= 2 ? known.step : 0;
        }

        private int learnStream(Worker w, int line) {
            Row followed = null;
            for (Row r : w.rows) {
                int away = r.latest > line ? r.latest - line : line - r.latest;
                if (away >= 1 && away <= 4 && (followed == null || r.stamp > followed.stamp)) {
                    followed = r;
                }
            }
            if (followed == null) {
                put(w, 3, NONE, line);
                return 0;
            }
            int way = line > followed.latest ? 1 : -1;
            if (way == followed.step) {
                followed.strength = Math.min(followed.strength + 1, 9);
            } else {
                followed.step = way;
                followed.strength = 1;
            }
            followed.latest = line;
            followed.stamp = ++clock;
            return followed.strength >= 2 ? way : 0;
        }
    }

    World now = new World();
    World snapshot = null;
    final List<World> history = new ArrayList<>();
    String text = "";

    private void act() {
        history.add(now.copy());
        if (history.size() > 4) {
            history.remove(0);
        }
    }

    private static boolean in(int v, int a, int b) {
        return a <= v && v <= b;
    }

    private boolean known(int helper) {
        return in(helper, 0, now.workers.size() - 1);
    }

    int shape(int sets, int ways) {
        if (!in(sets, 1, 8) || !in(ways, 1, 4)) {
            return BAD;
        }
        if (sets == now.sets && ways == now.ways) {
            return NONE;
        }
        act();
        int n = now.flush();
        now.exiles.clear();
        now.sets = sets;
        now.ways = ways;
        return n;
    }

    int flush() {
        if (now.held.isEmpty()) {
            return NONE;
        }
        act();
        return now.flush();
    }

    int addHelper(int kind, int degree, int price) {
        if (!in(kind, 0, 2) || !in(degree, 1, 4) || !in(price, 1, 9)) {
            return BAD;
        }
        if (now.workers.size() == 6) {
            return FULL;
        }
        act();
        Worker w = new Worker();
        w.kind = kind;
        w.degree = degree;
        w.price = price;
        now.workers.add(w);
        return now.workers.size() - 1;
    }

    int setDegree(int helper, int degree) {
        if (!known(helper)) {
            return UNKNOWN;
        }
        if (!in(degree, 1, 4)) {
            return BAD;
        }
        int old = now.workers.get(helper).degree;
        if (old == degree) {
            return NONE;
        }
        act();
        now.workers.get(helper).degree = degree;
        return old;
    }

    int setTrial(int lines) {
        if (!in(lines, 1, 9)) {
            return BAD;
        }
        int old = now.trial;
        if (old == lines) {
            return NONE;
        }
        act();
        now.trial = lines;
        return old;
    }

    int pardon(int helper) {
        if (!known(helper)) {
            return UNKNOWN;
        }
        if (now.workers.get(helper).state() == 0) {
            return NONE;
        }
        act();
        Worker w = now.workers.get(helper);
        int had = w.hours;
        w.pardoned += had;
        w.hours = 0;
        w.probationLines = 0;
        return had;
    }

    int forget(int helper) {
        if (!known(helper)) {
            return UNKNOWN;
        }
        if (now.workers.get(helper).kind == 2) {
            return NOT_POSSIBLE;
        }
        int n = now.workers.get(helper).rows.size();
        if (n == 0) {
            return NONE;
        }
        act();
        now.workers.get(helper).rows.clear();
        return n;
    }

    int access(int program, int line) {
        if (!in(program, 0, 15) || !in(line, 0, 9999)) {
            return BAD;
        }
        act();
        return now.access(program, line);
    }

    private boolean badWalk(int program, int line, int stride, int count) {
        if (!in(program, 0, 15) || !in(line, 0, 9999) || !in(stride, -999, 999) || !in(count, 1, 30)) {
            return true;
        }
        for (int i = 0; i < count; i++) {
            if (!in(line + i * stride, 0, 9999)) {
                return true;
            }
        }
        return false;
    }

    private static int walkOn(World w, int program, int line, int stride, int count) {
        int hits = 0;
        for (int i = 0; i < count; i++) {
            hits += w.access(program, line + i * stride) > 0 ? 1 : 0;
        }
        return hits;
    }

    int walk(int program, int line, int stride, int count) {
        if (badWalk(program, line, stride, count)) {
            return BAD;
        }
        act();
        return walkOn(now, program, line, stride, count);
    }

    int type(char c) {
        if (text.length() == 80) {
            return FULL;
        }
        text += c;
        return text.length();
    }

    int clearText() {
        int n = text.length();
        text = "";
        return n;
    }

    private static final String ACCESS = "[a-p](0|[1-9][0-9]{0,3})";

    /** Whether some trace begins with this text: one ends it for it, if it can be ended. */
    private static boolean canBegin(String start) {
        for (String end : new String[] {"", "0", "a0"}) {
            if ((start + end).matches(ACCESS + "(," + ACCESS + ")*")) {
                return true;
            }
        }
        return false;
    }

    int run() {
        for (int i = 0; i < text.length(); i++) {
            if (!canBegin(text.substring(0, i + 1))) {
                return -100 - i;
            }
        }
        if (!text.matches(ACCESS + "(," + ACCESS + ")*")) {
            return -100 - text.length();
        }
        act();
        int hits = 0;
        for (String one : text.split(",")) {
            hits += now.access(one.charAt(0) - 'a', Integer.parseInt(one.substring(1))) > 0 ? 1 : 0;
        }
        return hits;
    }

    int undo() {
        if (history.isEmpty()) {
            return NONE;
        }
        now = history.remove(history.size() - 1);
        return history.size();
    }

    int keep() {
        snapshot = now.copy();
        return now.allAccesses.size();
    }

    int restore() {
        if (snapshot == null) {
            return NONE;
        }
        act();
        now = snapshot.copy();
        return now.allAccesses.size();
    }

    int line(int line, int what) {
        if (!in(line, 0, 9999)) {
            return UNKNOWN;
        }
        if (!in(what, 0, 5)) {
            return BAD;
        }
        Held h = now.find(line);
        int e = now.exile(line);
        switch (what) {
            case 0: return h == null ? 0 : 1;
            case 1: return h != null && h.fresh ? 1 : 0;
            case 2: return h == null ? NONE : h.by;
            case 3: return h == null ? NONE : now.inSet(line % now.sets).indexOf(h);
            case 4: return e < 0 ? NONE : e;
            default: return e < 0 ? NONE : now.exiles.get(e)[1];
        }
    }

    int inSet(int set, int place) {
        if (!in(set, 0, now.sets - 1)) {
            return UNKNOWN;
        }
        if (place < 0) {
            return BAD;
        }
        List<Held> lines = now.inSet(set);
        return place < lines.size() ? lines.get(place).line : NONE;
    }

    int thrownOut(int place) {
        if (place < 0) {
            return BAD;
        }
        return place < now.exiles.size() ? now.exiles.get(place)[0] : NONE;
    }

    int helper(int helper, int what) {
        if (!known(helper)) {
            return UNKNOWN;
        }
        if (!in(what, 0, 15)) {
            return BAD;
        }
        Worker w = now.workers.get(helper);
        int fresh = 0;
        for (Held h : now.held) {
            fresh += h.fresh && h.by == helper ? 1 : 0;
        }
        return new int[] {w.kind, w.degree, w.price, w.state(), w.hours, w.probationLines, w.reach(), w.fetched,
            w.used, w.vain, fresh, w.harms, w.worked, w.pardoned, w.rows.size(), w.probations}[what];
    }

    int table(int helper, int place, int what) {
        if (!known(helper)) {
            return UNKNOWN;
        }
        if (place < 0 || !in(what, 0, 3)) {
            return BAD;
        }
        List<Row> rows = new ArrayList<>(now.workers.get(helper).rows);
        if (place >= rows.size()) {
            return NONE;
        }
        rows.sort(Comparator.comparingLong(r -> r.stamp));
        Row r = rows.get(place);
        return new int[] {r.program, r.latest, r.step, r.strength}[what];
    }

    int wouldAsk(int helper, int program, int line, int place) {
        if (!known(helper)) {
            return UNKNOWN;
        }
        if (!in(program, 0, 15) || !in(line, 0, 9999) || place < 0) {
            return BAD;
        }
        World then = now.copy();
        then.access(program, line);
        List<Integer> asks = then.workers.get(helper).asks;
        return place < asks.size() ? asks.get(place) : NONE;
    }

    int wouldHit(int program, int line, int stride, int count) {
        return badWalk(program, line, stride, count) ? BAD : walkOn(now.copy(), program, line, stride, count);
    }

    int bestHelper() {
        int best = NONE;
        for (int i = now.workers.size() - 1; i >= 0; i--) {
            Worker w = now.workers.get(i);
            if (best == NONE || w.used - w.vain >= now.workers.get(best).used - now.workers.get(best).vain) {
                best = i;
            }
        }
        return best;
    }

    int logged(int back, int what) {
        if (back < 0 || !in(what, 0, 4)) {
            return BAD;
        }
        int total = now.allAccesses.size();
        return back >= Math.min(12, total) ? NONE : now.allAccesses.get(total - 1 - back)[what];
    }

    int count(int what) {
        if (!in(what, 0, 16)) {
            return BAD;
        }
        int total = now.allAccesses.size();
        int fetched = 0;
        int fresh = 0;
        int hours = 0;
        for (Worker w : now.workers) {
            fetched += w.fetched;
            hours += w.hours;
        }
        for (Held h : now.held) {
            fresh += h.fresh ? 1 : 0;
        }
        Set<Integer> programs = new HashSet<>();
        for (int[] a : now.allAccesses.subList(Math.max(0, total - 12), total)) {
            programs.add(a[0]);
        }
        return new int[] {total, now.hits, now.newHits, total - now.hits, fetched, now.thrownCount, now.sets, now.ways,
            now.held.size(), fresh, now.workers.size(), now.trial, hours, now.exiles.size(), history.size(),
            text.length(), programs.size()}[what];
    }
}
