import java.util.ArrayList;
import java.util.List;
import java.util.TreeMap;
import java.util.regex.Matcher;
import java.util.regex.Pattern;

/**
 * The document once more, in another form: lists and maps, a class for each KIND, exceptions, and
 * every TRIAL gone day by day on a copy of all. Slow and plain, to be compared with LastDays.
 */
final class Oracle {
    static class Parted extends RuntimeException {
        private static final long serialVersionUID = 1L;
    }

    static final class Human {
        int kind, a, work, done, ill, handed = -9, missed;

        Human copy() {
            Human h = new Human();
            h.kind = kind;
            h.a = a;
            h.work = work;
            h.done = done;
            h.ill = ill;
            h.handed = handed;
            h.missed = missed;
            return h;
        }
    }

    static final class World {
        int due = 29, most = 8, penalty = 5, bonus = 0, missedLaw = 5, today = 0, z = 1;
        TreeMap<Integer, Integer> dates = new TreeMap<>();
        List<Human> people = new ArrayList<>();

        World copy() {
            World w = new World();
            w.due = due;
            w.most = most;
            w.penalty = penalty;
            w.bonus = bonus;
            w.missedLaw = missedLaw;
            w.today = today;
            w.z = z;
            w.dates = new TreeMap<>(dates);
            for (Human h : people) {
                w.people.add(h.copy());
            }
            return w;
        }

        int[] goal(Human h) {
            for (var e : dates.entrySet()) {
                int hours = (int) Math.floor(h.work * e.getValue() / 100.0 + 1e-9);
                if (e.getKey() >= today && hours > h.done) {
                    return new int[] {e.getKey(), hours - h.done};
                }
            }
            return new int[] {due, h.work - h.done};
        }

        int toGo(Human h) {
            int t = goal(h)[0] - today + 1;
            return t < 1 ? 1 : t;
        }

        int hours(Human h) {
            if (h.handed != -9 || today < 30 && ((h.ill >>> today) & 1) != 0) {
                return 0;
            }
            int left = goal(h)[1], toGo = toGo(h), hours = 0;
            if (h.kind == 0) {
                hours = h.a + 1;
            } else if (h.kind == 1) {
                hours = left + h.a > most * (toGo - 1) ? most : 0;
            } else if (h.kind == 2) {
                hours = 1 + (2 * left) / (toGo + 1);
            } else if (h.kind == 3) {
                hours = left > most * (toGo - 1) ? most : 0;
            } else if (h.kind == 4) {
                hours = (int) Math.ceil((double) left / toGo);
            } else if ((today * 7 + h.a) % 3 != 0) {
                hours = h.a + 1;
            }
            return Math.min(hours, Math.min(most, h.work - h.done));
        }

        void day() {
            for (Human h : people) {
                h.done += hours(h);
                Integer part = dates.get(today);
                if (part != null && h.done < h.work * part / 100) {
                    h.missed++;
                }
                if (h.handed == -9 && h.done == h.work) {
                    h.handed = today;
                }
            }
            today++;
        }

        World trial() {
            World w = copy();
            while (w.today < 60) {
                w.day();
            }
            return w;
        }

        Integer mark(Human h) {
            if (h.handed == -9) {
                return null;
            }
            int m = 100;
            for (int d = due; d < h.handed; d++) {
                m -= penalty;
            }
            for (int d = h.handed; d < due; d++) {
                m += bonus;
            }
            m -= missedLaw * h.missed;
            return m < 0 ? 0 : m > 120 ? 120 : m;
        }

        Integer mark(int p) {
            return mark(people.get(p));
        }

        int late() {
            int set = 0;
            for (int i = 0; i < people.size(); i++) {
                int d = people.get(i).handed;
                if (d == -9 || d > due) {
                    set += 1 << i;
                }
            }
            return set;
        }

        int marks() {
            int sum = 0;
            for (Human h : people) {
                sum += mark(h) == null ? 0 : mark(h);
            }
            return sum;
        }
    }

    World w = new World();
    World keptWorld;
    List<Integer> tape = new ArrayList<>();
    List<int[]> rows = new ArrayList<>();
    Object[] sheets = new Object[4];
    Object[] shelves = new Object[4];
    List<Integer> trail = new ArrayList<>();

    boolean man(int p) {
        return p >= 0 && p < w.people.size();
    }

    static boolean in(int v, int lo, int hi) {
        return lo <= v && v <= hi;
    }

    int feed(long eight, int n) {
        if (!in(n, 1, 8)) {
            return -1;
        }
        if (tape.size() + n > 200) {
            return -2;
        }
        for (int i = 0; i < n; i++) {
            tape.add((int) (eight & 255));
            eight >>>= 8;
        }
        return tape.size();
    }

    static final class Fault extends Exception {
        private static final long serialVersionUID = 1L;
        final int place;

        Fault(int place) {
            this.place = place;
        }
    }

    /** The TEXT cut into tokens first, then read. */
    static final class Reader {
        final List<String> words = new ArrayList<>();
        final List<Integer> places = new ArrayList<>();
        int at;

        Reader(String text) {
            Matcher m = Pattern.compile("[a-z]+|[0-9]+|[^ ]", Pattern.DOTALL).matcher(text);
            while (m.find()) {
                words.add(m.group());
                places.add(m.start());
            }
            words.add("");
            places.add(text.length());
        }

        String word() {
            return words.get(at);
        }

        Fault fault() {
            return new Fault(places.get(at));
        }

        void need(String s) throws Fault {
            if (!word().equals(s)) {
                throw fault();
            }
            at++;
        }

        int num(int lo, int hi) throws Fault {
            if (!word().matches("[0-9]{1,2}") || !in(Integer.parseInt(word()), lo, hi)) {
                throw fault();
            }
            return Integer.parseInt(words.get(at++));
        }

        World world() throws Fault {
            World w = new World();
            List<String> kinds = List.of("worker", "late", "halver", "waiter", "steady", "busy");
            int told = 0, lastDay = -1;
            while (!word().isEmpty()) {
                String first = word();
                if (kinds.contains(first)) {
                    if (w.people.size() == 6) {
                        throw fault();
                    }
                    at++;
                    Human h = new Human();
                    h.kind = kinds.indexOf(first);
                    h.a = num(0, 9);
                    need("work");
                    h.work = num(1, 99);
                    if (word().equals("ill")) {
                        do {
                            at++;
                            h.ill |= 1 << num(0, 29);
                        } while (word().equals(","));
                    }
                    w.people.add(h);
                } else if (first.equals("due")) {
                    at++;
                    w.due = num(1, 50);
                } else if (first.equals("most")) {
                    at++;
                    w.most = num(1, 12);
                } else if (first.equals("penalty")) {
                    at++;
                    w.penalty = num(0, 30);
                } else if (first.equals("date")) {
                    if (told == 3) {
                        throw fault();
                    }
                    at++;
                    told++;
                    lastDay = num(lastDay + 1, 49);
                    need("part");
                    w.dates.put(lastDay, num(1, 99));
                } else {
                    throw fault();
                }
                need(";");
            }
            w.dates.keySet().removeIf(d -> d >= w.due);
            return w;
        }
    }

    int task() {
        StringBuilder text = new StringBuilder();
        for (int b : tape) {
            text.append((char) b);
        }
        tape.clear();
        try {
            World told = new Reader(text.toString()).world();
            told.z = w.z;
            w = told;
            rows.clear();
            return w.people.size();
        } catch (Fault f) {
            return -100 - f.place;
        }
    }

    int lawOf(int law) {
        switch (law) {
            case 0: return w.due;
            case 1: return w.most;
            case 2: return w.penalty;
            case 3: return w.bonus;
            case 4: return w.missedLaw;
            default: return -1;
        }
    }

    int set(int law, int v) {
        int was = lawOf(law);
        if (law == 0 && in(v, 1, 50)) {
            w.due = v;
            w.dates.keySet().removeIf(d -> d >= v);
        } else if (law == 1 && in(v, 1, 12)) {
            w.most = v;
        } else if (law == 2 && in(v, 0, 30)) {
            w.penalty = v;
        } else if (law == 3 && in(v, 0, 10)) {
            w.bonus = v;
        } else if (law == 4 && in(v, 0, 30)) {
            w.missedLaw = v;
        } else {
            return -1;
        }
        return was;
    }

    int date(int day, int part) {
        if (!in(day, 0, w.due - 1) || !in(part, 1, 99)) {
            return -1;
        }
        if (w.dates.containsKey(day)) {
            return -4;
        }
        if (w.dates.size() == 3) {
            return -2;
        }
        w.dates.put(day, part);
        return w.dates.size();
    }

    int dateOf(int i, int what) {
        if (!in(what, 0, 1)) {
            return -1;
        }
        if (!in(i, 0, w.dates.size() - 1)) {
            return -3;
        }
        var e = new ArrayList<>(w.dates.entrySet()).get(i);
        return what == 0 ? e.getKey() : e.getValue();
    }

    int strike(int i) {
        if (!in(i, 0, w.dates.size() - 1)) {
            return -1;
        }
        w.dates.remove(new ArrayList<>(w.dates.keySet()).get(i));
        return w.dates.size();
    }

    int person(int kind, int a, int work) {
        if (!in(kind, 0, 5) || !in(a, 0, 9) || !in(work, 1, 99)) {
            return -1;
        }
        if (w.people.size() == 6) {
            return -2;
        }
        Human h = new Human();
        h.kind = kind;
        h.a = a;
        h.work = work;
        w.people.add(h);
        return w.people.size() - 1;
    }

    int personOf(int p, int what) {
        if (!man(p) || !in(what, 0, 7)) {
            return -1;
        }
        Human h = w.people.get(p);
        Integer mark = w.mark(h);
        return new int[] {h.kind, h.a, h.work, h.done, h.ill, h.handed, h.missed, mark == null ? -9 : mark}[what];
    }

    int mind(int p, int kind, int a) {
        if (!man(p) || !in(kind, 0, 5) || !in(a, 0, 9)) {
            return -1;
        }
        Human h = w.people.get(p);
        int was = h.kind;
        h.kind = kind;
        h.a = a;
        return was;
    }

    int ill(int p, int days) {
        if (!man(p) || !in(days, 0, 1073741823)) {
            return -1;
        }
        w.people.get(p).ill = days;
        return Integer.bitCount(days);
    }

    int goal(int p, int what) {
        if (!man(p) || !in(what, 0, 3)) {
            return -1;
        }
        Human h = w.people.get(p);
        if (h.handed != -9 || w.today == 60) {
            return -4;
        }
        return new int[] {w.goal(h)[0], w.goal(h)[1], w.toGo(h), w.hours(h)}[what];
    }

    int today() {
        return w.today;
    }

    int days(int n) {
        if (!in(n, 0, 60)) {
            return -1;
        }
        for (int i = 0; i < n && w.today < 60; i++) {
            w.day();
        }
        return w.today;
    }

    int heap(int day) {
        return !in(day, 0, 59) ? -1 : (int) w.trial().people.stream().filter(h -> h.handed == day).count();
    }

    int when(int p) {
        if (!man(p)) {
            return -1;
        }
        int d = w.trial().people.get(p).handed;
        return d == -9 ? -3 : d;
    }

    int markOf(int p) {
        if (!man(p)) {
            return -1;
        }
        Integer m = w.trial().mark(p);
        return m == null ? -3 : m;
    }

    int late() {
        return w.trial().late();
    }

    int marks() {
        return w.trial().marks();
    }

    int bestDate() {
        TreeMap<Integer, Integer> sums = new TreeMap<>();
        for (int d = w.today; d < w.due; d++) {
            if (!w.dates.containsKey(d)) {
                World v = w.copy();
                v.dates.put(d, 50);
                sums.putIfAbsent(-v.trial().marks(), d);
            }
        }
        if (sums.isEmpty()) {
            return -3;
        }
        return w.dates.size() == 3 ? -2 : sums.firstEntry().getValue();
    }

    int enough(int p, int mark) {
        if (!man(p) || !in(mark, 1, 120)) {
            return -1;
        }
        for (int v = 0; v <= 30; v++) {
            World u = w.copy();
            u.penalty = v;
            Integer m = u.trial().mark(p);
            if (m != null && m < mark) {
                return v;
            }
        }
        return -3;
    }

    int patience(int p) {
        if (!man(p)) {
            return -1;
        }
        int best = -3, most = Integer.MIN_VALUE;
        for (int a = 9; a >= 0; a--) {
            World u = w.copy();
            u.people.get(p).a = a;
            Integer m = u.trial().mark(p);
            if (m != null && m >= most) {
                most = m;
                best = a;
            }
        }
        return best;
    }

    int worst(int p) {
        if (!man(p)) {
            return -1;
        }
        int worst = -3, least = Integer.MAX_VALUE;
        for (int d = 29; d >= w.today; d--) {
            World u = w.copy();
            Human h = u.people.get(p);
            if ((h.ill & (1 << d)) != 0) {
                continue;
            }
            h.ill |= 1 << d;
            Integer m = u.trial().mark(p);
            int v = m == null ? -1 : m;
            if (v <= least) {
                least = v;
                worst = d;
            }
        }
        return worst;
    }

    int sooner() {
        int now = late();
        for (int d = 1; d <= 50; d++) {
            if (!w.dates.isEmpty() && d <= w.dates.lastKey()) {
                continue;
            }
            World u = w.copy();
            u.due = d;
            if ((u.trial().late() | now) == now) {
                return d;
            }
        }
        return -3;
    }

    int seed(int v) {
        int was = w.z;
        w.z = v;
        return was;
    }

    int lot(int p) {
        if (!man(p)) {
            return -1;
        }
        w.z = w.z * 1103515245 + 12345;
        int d = (w.z >>> 16) % 30;
        w.people.get(p).ill |= 1 << d;
        return d;
    }

    List<int[]> rowsOf(int p, int n) {
        List<int[]> list = new ArrayList<>();
        World u = w.copy();
        for (int i = 0; i < n && u.today < 60; i++) {
            int before = u.people.get(p).done, day = u.today;
            u.day();
            int done = u.people.get(p).done;
            list.add(new int[] {day, done - before, done});
        }
        return list;
    }

    int prove(int p, int n) {
        if (!man(p) || !in(n, 1, 20)) {
            return -1;
        }
        rows = rowsOf(p, n);
        return rows.size();
    }

    int row(int i, int what) {
        return in(i, 0, rows.size() - 1) && in(what, 0, 2) ? rows.get(i)[what] : -9;
    }

    int alterRow(int i, int what, int v) {
        int was = row(i, what);
        if (in(i, 0, rows.size() - 1) && in(what, 0, 2)) {
            rows.get(i)[what] = v;
        }
        return was;
    }

    int judge(int p) {
        if (!man(p)) {
            return -1;
        }
        List<int[]> right = rowsOf(p, rows.size());
        for (int i = 0; i < rows.size(); i++) {
            if (i >= right.size() || !java.util.Arrays.equals(right.get(i), rows.get(i))) {
                return i + 1;
            }
        }
        return 0;
    }

    int minds(int s, int i, int p, int n) {
        if (!in(s, 0, 3) || !man(p) || !in(n, 0, 6) || p + n > w.people.size()) {
            return -1;
        }
        try {
            byte[] b = (byte[]) sheets[s];
            if (b.length < 0 || i < 0 || (long) i + n > b.length) {
                return -12;
            }
            for (int k = 0; k < n; k++) {
                w.people.get(p + k).a = Math.max(0, Math.min(9, b[i + k]));
            }
            return n;
        } catch (NullPointerException e) {
            return -11;
        } catch (ClassCastException e) {
            return -13;
        }
    }

    int sheet(int s, int sort, int n) {
        if (!in(s, 0, 3) || !in(sort, -1, 3) || sort >= 0 && n > 40) {
            return -1;
        }
        try {
            sheets[s] = sort == -1 ? null : sort == 0 ? new byte[n] : sort == 1 ? new short[n]
                    : sort == 2 ? (Object) new int[n] : new long[n];
            return 1;
        } catch (NegativeArraySizeException e) {
            return -14;
        }
    }

    int put(int s, int i, int v) {
        if (!in(s, 0, 3)) {
            return -1;
        }
        try {
            if (sheets[s] == null) {
                return -11;
            }
            if (sheets[s] instanceof byte[]) {
                ((byte[]) sheets[s])[i] = (byte) v;
            } else if (sheets[s] instanceof short[]) {
                ((short[]) sheets[s])[i] = (short) v;
            } else if (sheets[s] instanceof int[]) {
                ((int[]) sheets[s])[i] = v;
            } else {
                ((long[]) sheets[s])[i] = v;
            }
            return 1;
        } catch (ArrayIndexOutOfBoundsException e) {
            return -12;
        }
    }

    int item(int s, int sort, int i) {
        if (!in(s, 0, 3) || !in(sort, 0, 3)) {
            return -1;
        }
        try {
            switch (sort) {
                case 0: return ((byte[]) sheets[s])[i];
                case 1: return ((short[]) sheets[s])[i];
                case 2: return ((int[]) sheets[s])[i];
                default: return (int) ((long[]) sheets[s])[i];
            }
        } catch (NullPointerException e) {
            return -11;
        } catch (ClassCastException e) {
            return -13;
        } catch (ArrayIndexOutOfBoundsException e) {
            return -12;
        }
    }

    int shelf(int s, int what, int n) {
        if (!in(s, 0, 3) || !in(what, 0, 2) || what == 0 && !man(n) || what == 1 && !in(n, 0, 3)) {
            return -1;
        }
        shelves[s] = what == 0 ? (Object) Integer.valueOf(n) : what == 1 ? sheets[n] : null;
        return 1;
    }

    /** The thing on a shelf: a Worker or one under it, an array, or null. */
    Object thing(int s) {
        if (shelves[s] instanceof Integer) {
            int n = (Integer) shelves[s];
            if (!man(n)) {
                return null;
            }
            Human h = w.people.get(n);
            Worker t = h.kind == 0 ? new Worker() : h.kind == 1 ? new Late() : h.kind == 2 ? new Halver()
                    : h.kind == 3 ? new Waiter() : h.kind == 4 ? new Steady() : new Busy();
            t.n = n;
            t.a = h.a;
            t.trail = trail;
            return t;
        }
        return shelves[s];
    }

    int taken(int s, int as) {
        if (!in(s, 0, 3) || !in(as, 0, 5) && !in(as, 10, 13)) {
            return -1;
        }
        Object t = thing(s);
        try {
            switch (as) {
                case 0: return ((Worker) t).n;
                case 1: return ((Late) t).n;
                case 2: return ((Halver) t).n;
                case 3: return ((Waiter) t).n;
                case 4: return ((Steady) t).n;
                case 5: return ((Busy) t).n;
                case 10: return ((byte[]) t).length;
                case 11: return ((short[]) t).length;
                case 12: return ((int[]) t).length;
                default: return ((long[]) t).length;
            }
        } catch (NullPointerException e) {
            return -11;
        } catch (ClassCastException e) {
            return -13;
        }
    }

    int act(int s, int act, int x) {
        trail.clear();
        if (!in(s, 0, 3) || !in(act, 0, 3) || !(thing(s) instanceof Worker)) {
            return 0;
        }
        Worker t = (Worker) thing(s);
        try {
            return act == 0 ? t.works(x) : act == 1 ? t.waits(x) : act == 2 ? t.shares(x) : t.tells(x);
        } catch (Parted e) {
            return -15;
        }
    }

    int trace(int i) {
        return in(i, 0, Math.min(30, trail.size()) - 1) ? trail.get(i) : -3;
    }

    int many(int what) {
        switch (what) {
            case 0: return w.people.size();
            case 1: return w.dates.size();
            case 2: return (int) w.people.stream().filter(h -> h.handed != -9).count();
            case 3: return rows.size();
            case 4: return tape.size();
            case 5: return Math.min(30, trail.size());
            default: return -1;
        }
    }

    int keep() {
        keptWorld = w.copy();
        return 1;
    }

    int again() {
        if (keptWorld == null) {
            return -3;
        }
        w = keptWorld.copy();
        return w.today;
    }

    static class Worker {
        int n, a;
        List<Integer> trail;

        int works(int x) {
            trail.add(10);
            return x + n;
        }

        int waits(int x) {
            trail.add(11);
            return works(x) * 2;
        }

        int shares(int x) {
            trail.add(12);
            if (a == n) {
                throw new Parted();
            }
            return x / (a - n);
        }

        int tells(int x) {
            trail.add(13);
            return waits(x) ^ a;
        }
    }

    static class Late extends Worker {
        @Override
        int waits(int x) {
            trail.add(20);
            return super.waits(x) - a;
        }
    }

    static class Halver extends Worker {
        @Override
        int works(int x) {
            trail.add(30);
            return super.works(x) * 3;
        }

        @Override
        int tells(int x) {
            trail.add(31);
            return super.tells(x) + shares(n);
        }
    }

    static class Steady extends Halver {
        @Override
        int works(int x) {
            trail.add(40);
            return 0 - super.works(x);
        }

        @Override
        int waits(int x) {
            trail.add(41);
            return super.waits(x) + works(n);
        }
    }

    static class Waiter extends Late {
        @Override
        int shares(int x) {
            trail.add(50);
            return super.shares(x + 2) ^ 1;
        }

        @Override
        int works(int x) {
            trail.add(51);
            return super.works(x) - n;
        }
    }

    static class Busy extends Worker {
        @Override
        int tells(int x) {
            trail.add(60);
            return super.tells(x) * 2;
        }

        @Override
        int shares(int x) {
            trail.add(61);
            return super.shares(x) + works(a);
        }
    }
}
