import java.util.ArrayList;
import java.util.HashMap;
import java.util.List;
import java.util.Map;
import java.util.Set;

/**
 * The document said once more for the random runs, in the plainest way: deep copies, all sets, all plans, and what
 * the host itself does for forge. ACTS are left to ActsTest.
 */
final class PlainHouse {
    int status;
    private World now = new World();
    private World image;
    private int restored;
    private final Object[] sheets = new Object[4];

    private static final class Row {
        int text;
        int maker;
        List<int[]> marks = new ArrayList<>();

        Row copy() {
            Row row = new Row();
            row.text = text;
            row.maker = maker;
            for (int[] mark : marks) {
                row.marks.add(mark.clone());
            }
            return row;
        }
    }

    private static class Kind {
        int kind;
        int file;
        int hand;
        int other;
        int day;
        int lasting;
        List<Row> ahead;
    }

    private static class FormedKind extends Kind {
    }

    private static final class MadeKind extends Kind {
    }

    private static final class PairedKind extends Kind {
    }

    private static final class BackKind extends Kind {
    }

    private static final class MovedKind extends FormedKind {
    }

    private static final class World {
        List<Integer> hours = new ArrayList<>();
        List<Boolean> present = new ArrayList<>();
        int day;
        int share = 50;
        List<Integer> tape = new ArrayList<>();
        List<List<Row>> files = new ArrayList<>();
        List<Kind> changes = new ArrayList<>();

        World() {
            for (int f = 0; f < 6; f++) {
                files.add(new ArrayList<>());
            }
        }

        World copy() {
            World other = new World();
            other.hours.addAll(hours);
            other.present.addAll(present);
            other.day = day;
            other.share = share;
            other.tape.addAll(tape);
            for (int f = 0; f < 6; f++) {
                other.files.set(f, copyOf(files.get(f)));
            }
            other.changes.addAll(changes);
            return other;
        }
    }

    private static List<Row> copyOf(List<Row> rows) {
        List<Row> copies = new ArrayList<>();
        for (Row row : rows) {
            copies.add(row.copy());
        }
        return copies;
    }

    private static boolean within(int n, int from, int to) {
        return n >= from && n <= to;
    }

    private int refuse(int why) {
        status = why;
        return -1;
    }

    private int done(int answer) {
        status = 0;
        return answer;
    }

    private boolean isPerson(int p) {
        return within(p, 0, now.hours.size() - 1);
    }

    private boolean isFile(int f) {
        return within(f, 0, 5);
    }

    int people() {
        return now.hours.size();
    }

    int changes() {
        return now.changes.size();
    }

    int person(int hours) {
        if (!within(hours, 0, 99)) {
            return refuse(1);
        }
        if (now.hours.size() == 8) {
            return refuse(2);
        }
        now.hours.add(hours);
        now.present.add(true);
        return done(now.hours.size() - 1);
    }

    int here(int person, boolean is) {
        return isPerson(person) ? done(now.present.set(person, is) == is ? 0 : 1) : refuse(1);
    }

    int day(int n) {
        if (!within(n, 0, 1000)) {
            return refuse(1);
        }
        if (now.day + n > 100000) {
            return refuse(2);
        }
        now.day += n;
        return done(now.day);
    }

    int share(int n) {
        if (!within(n, 1, 100)) {
            return refuse(1);
        }
        int was = now.share;
        now.share = n;
        return done(was);
    }

    int text(int text) {
        if (!within(text, 10, 9999)) {
            return refuse(1);
        }
        if (now.tape.size() == 20) {
            return refuse(2);
        }
        now.tape.add(text);
        return done(now.tape.size());
    }

    int wipe() {
        int had = now.tape.size();
        now.tape.clear();
        return done(had);
    }

    private static Kind ofKind(int kind) {
        switch (kind) {
            case 1:
                return new FormedKind();
            case 2:
                return new MadeKind();
            case 3:
                return new PairedKind();
            case 4:
                return new BackKind();
            case 5:
                return new MovedKind();
            default:
                return new Kind();
        }
    }

    private Kind begin(int kind, int file, int hand, int other) {
        Kind c = ofKind(kind);
        c.kind = kind;
        c.file = file;
        c.hand = hand;
        c.other = other;
        c.day = now.day;
        c.ahead = copyOf(now.files.get(file));
        return c;
    }

    int change(int kind, int file, int hand, int other) {
        if (!Set.of(0, 1, 2, 3, 5).contains(kind) || !isFile(file) || !isPerson(hand)) {
            return refuse(1);
        }
        if (kind == 3 && (!isPerson(other) || other == hand)) {
            return refuse(1);
        }
        if (now.changes.size() == 60) {
            return refuse(2);
        }
        if (!now.present.get(hand) || kind == 3 && !now.present.get(other)) {
            return refuse(3);
        }
        Kind c = begin(kind, file, hand, kind == 3 ? other : -1);
        int number = now.changes.size();
        List<Row> old = now.files.get(file);
        List<Integer> way = new ArrayList<>(best(old, kind == 1 || kind == 5, 0, 0, new HashMap<>()));
        if (kind == 5) {
            move(old, way);
        }
        List<Row> rows = new ArrayList<>();
        for (int j = 0; j < way.size(); j++) {
            Row row = new Row();
            if (way.get(j) != BEHIND_ALL) {
                row = old.get(way.get(j));
                c.lasting++;
            } else {
                row.maker = number;
                row.marks.add(new int[] {hand, now.day, kind == 2 ? 2 : kind == 3 ? 5 : 8});
                if (kind == 3) {
                    row.marks.add(new int[] {other, now.day, 5});
                }
            }
            row.text = now.tape.get(j);
            rows.add(row);
        }
        now.files.set(file, rows);
        now.changes.add(c);
        now.tape.clear();
        return done(number);
    }

    private static final int BEHIND_ALL = 99;

    /** For the new LINES from j on the old ones, of those from i on: the most pairs, then the least row of numbers. */
    private List<Integer> best(List<Row> old, boolean wording, int i, int j, Map<Integer, List<Integer>> known) {
        if (j == now.tape.size()) {
            return List.of();
        }
        if (known.containsKey(i * 100 + j)) {
            return known.get(i * 100 + j);
        }
        List<Integer> best = behind(BEHIND_ALL, best(old, wording, i, j + 1, known));
        for (int o = i; o < old.size(); o++) {
            int was = old.get(o).text;
            int is = now.tape.get(j);
            if (was == is || wording && was / 10 == is / 10) {
                List<Integer> way = behind(o, best(old, wording, o + 1, j + 1, known));
                best = isBetter(way, best) ? way : best;
            }
        }
        known.put(i * 100 + j, best);
        return best;
    }

    private static List<Integer> behind(int first, List<Integer> rest) {
        List<Integer> all = new ArrayList<>();
        all.add(first);
        all.addAll(rest);
        return all;
    }

    private static boolean isBetter(List<Integer> way, List<Integer> other) {
        long pairs = way.stream().filter(o -> o != BEHIND_ALL).count();
        long others = other.stream().filter(o -> o != BEHIND_ALL).count();
        if (pairs != others) {
            return pairs > others;
        }
        for (int j = 0; j < way.size(); j++) {
            if (!way.get(j).equals(other.get(j))) {
                return way.get(j) < other.get(j);
            }
        }
        return false;
    }

    private void move(List<Row> old, List<Integer> way) {
        for (int j = 0; j < way.size(); j++) {
            for (int o = 0; o < old.size() && way.get(j) == BEHIND_ALL; o++) {
                if (!way.contains(o) && old.get(o).text == now.tape.get(j)) {
                    way.set(j, o);
                }
            }
        }
    }

    int back(int change, int hand) {
        if (!within(change, 0, now.changes.size() - 1) || !isPerson(hand)) {
            return refuse(1);
        }
        if (now.changes.size() == 60) {
            return refuse(2);
        }
        if (!now.present.get(hand)) {
            return refuse(3);
        }
        Kind undone = now.changes.get(change);
        Kind c = begin(4, undone.file, hand, change);
        c.lasting = undone.ahead.size();
        now.files.set(undone.file, copyOf(undone.ahead));
        now.changes.add(c);
        return done(now.changes.size() - 1);
    }

    int read(int person, int file, int from, int to) {
        if (!isPerson(person) || !isFile(file) || from < 0 || from > to || to >= now.files.get(file).size()) {
            return refuse(1);
        }
        if (!now.present.get(person)) {
            return refuse(3);
        }
        for (int i = from; i <= to; i++) {
            readOne(now.files.get(file).get(i), person);
        }
        return done(to - from + 1);
    }

    private void readOne(Row row, int person) {
        row.marks.add(new int[] {person, now.day, 3});
        if (row.marks.size() > 8) {
            row.marks.remove(0);
        }
    }

    int image() {
        image = now.copy();
        return done(1);
    }

    int restore() {
        if (restored == 10) {
            return refuse(2);
        }
        if (image == null) {
            return refuse(3);
        }
        restored++;
        now = image.copy();
        return done(now.day);
    }

    int lines(int file) {
        return isFile(file) ? now.files.get(file).size() : -1;
    }

    private Row row(int file, int i) {
        return within(i, 0, lines(file) - 1) ? now.files.get(file).get(i) : null;
    }

    int line(int file, int i, int what) {
        Row row = row(file, i);
        return row == null || !within(what, 0, 2) ? -1 : new int[] {row.text, row.maker, row.marks.size()}[what];
    }

    int mark(int file, int i, int k, int what) {
        Row row = row(file, i);
        boolean is = row != null && within(k, 0, row.marks.size() - 1) && within(what, 0, 2);
        return is ? row.marks.get(k)[what] : -1;
    }

    int changeTold(int change, int what) {
        if (!within(change, 0, now.changes.size() - 1) || !within(what, 0, 7)) {
            return -1;
        }
        Kind c = now.changes.get(change);
        int made = 0;
        for (List<Row> rows : now.files) {
            for (Row row : rows) {
                made += row.maker == change ? 1 : 0;
            }
        }
        return new int[] {c.kind, c.file, c.hand, c.other, c.day, c.lasting, c.ahead.size(), made}[what];
    }

    private int pointsOf(int person, Row row) {
        int points = 0;
        for (int[] mark : row.marks) {
            points += mark[0] == person ? Math.max(0, mark[2] - (now.day - mark[1]) / 10) : 0;
        }
        return points;
    }

    int points(int person, int file, int i) {
        Row row = row(file, i);
        return row == null || !isPerson(person) ? -1 : pointsOf(person, row);
    }

    private int knownOf(int person, List<Row> rows) {
        int known = 0;
        for (Row row : rows) {
            known += pointsOf(person, row) >= 5 ? 1 : 0;
        }
        return known;
    }

    int knows(int person, int file) {
        return isPerson(person) && isFile(file) ? knownOf(person, now.files.get(file)) : -1;
    }

    private boolean isAble(int person, List<Row> rows) {
        return rows.isEmpty() || knownOf(person, rows) * 100 >= now.share * rows.size();
    }

    int able(int person, int file) {
        return !isPerson(person) || !isFile(file) ? -1 : isAble(person, now.files.get(file)) ? 1 : 0;
    }

    private boolean isLost(int file, int people) {
        for (int p = 0; p < now.hours.size(); p++) {
            if (now.present.get(p) && (people >> p & 1) == 0 && isAble(p, now.files.get(file))) {
                return false;
            }
        }
        return true;
    }

    int lost(int people) {
        if (!within(people, 0, (1 << now.hours.size()) - 1)) {
            return -1;
        }
        int lost = 0;
        for (int f = 0; f < 6; f++) {
            lost |= isLost(f, people) ? 1 << f : 0;
        }
        return lost;
    }

    private int presentBits() {
        int bits = 0;
        for (int p = 0; p < now.hours.size(); p++) {
            bits |= now.present.get(p) ? 1 << p : 0;
        }
        return bits;
    }

    private List<Integer> loneSets() {
        int[] lostBy = new int[1 << now.hours.size()];
        for (int set = 0; set < lostBy.length; set++) {
            lostBy[set] = lost(set);
        }
        List<Integer> sets = new ArrayList<>();
        for (int many = 1; many <= 3; many++) {
            for (int set = 1; set < lostBy.length; set++) {
                int byLess = 0;
                for (int less = 0; less < set; less++) {
                    byLess |= (less & ~set) == 0 ? lostBy[less] : 0;
                }
                boolean isHere = (set & ~presentBits()) == 0;
                if (isHere && Integer.bitCount(set) == many && (lostBy[set] & ~byLess) != 0) {
                    sets.add(set);
                }
            }
        }
        return sets;
    }

    int lone(int i) {
        List<Integer> sets = loneSets();
        return within(i, 0, sets.size() - 1) ? sets.get(i) : -1;
    }

    int cover() {
        int need = 63 & ~lost(0);
        int all = (1 << now.hours.size()) - 1;
        for (int many = 0; many <= 8; many++) {
            for (int set = 0; set <= all; set++) {
                boolean isOfThem = (set & ~presentBits()) == 0 && Integer.bitCount(set) == many;
                if (isOfThem && (lost(all & ~set) & need) == 0) {
                    return set;
                }
            }
        }
        return -1;
    }

    private int[] bestPlan;
    private int bestHours;

    int plan(int many, int what) {
        if (!within(many, 1, 3) || !within(what, -1, now.hours.size() - 1)) {
            return -2;
        }
        int[] have = new int[6];
        for (int f = 0; f < 6; f++) {
            for (int p = 0; p < now.hours.size(); p++) {
                have[f] += now.present.get(p) && isAble(p, now.files.get(f)) ? 1 : 0;
            }
        }
        int[][] tasks = new int[now.hours.size()][6];
        for (int p = 0; p < tasks.length; p++) {
            for (int f = 0; f < 6; f++) {
                tasks[p][f] = taskHours(p, f);
            }
        }
        bestPlan = null;
        bestHours = Integer.MAX_VALUE;
        tryPlans(many, tasks, have, new int[tasks.length], 0, 0);
        return bestPlan == null ? -2 : what == -1 ? bestHours : bestPlan[what];
    }

    private int taskHours(int person, int file) {
        List<Row> then = copyOf(now.files.get(file));
        for (Row row : then) {
            readOne(row, person);
        }
        int hours = then.size() - knownOf(person, now.files.get(file));
        boolean is = now.present.get(person) && !isAble(person, now.files.get(file)) && isAble(person, then);
        return is && hours <= now.hours.get(person) ? hours : -1;
    }

    /** All plans, in the order of the document: the first one of the least HOURS stays. */
    private void tryPlans(int many, int[][] tasks, int[] have, int[] plan, int p, int hours) {
        if (p == tasks.length) {
            for (int f = 0; f < 6; f++) {
                if (!now.files.get(f).isEmpty() && have[f] < many) {
                    return;
                }
            }
            if (hours < bestHours) {
                bestHours = hours;
                bestPlan = plan.clone();
            }
            return;
        }
        for (int f = 0; f < 6; f++) {
            if (tasks[p][f] != -1) {
                plan[p] = f;
                have[f]++;
                tryPlans(many, tasks, have, plan, p + 1, hours + tasks[p][f]);
                have[f]--;
            }
        }
        plan[p] = -1;
        tryPlans(many, tasks, have, plan, p + 1, hours);
    }

    int sum(int person, int file) {
        if (!isPerson(person) || file != -1 && !isFile(file)) {
            return -1;
        }
        int sum = 0;
        for (int f = 0; f < 6; f++) {
            for (Row row : now.files.get(f)) {
                Kind c = now.changes.get(row.maker);
                boolean isOneOf = c.hand == person || c.kind == 3 && c.other == person;
                sum += (file == -1 || file == f) && isOneOf ? c.kind == 3 ? 1 : 2 : 0;
            }
        }
        return sum;
    }

    int count(int what) {
        int[] counts = {now.hours.size(), now.changes.size(), now.day, now.share, now.tape.size(),
            Integer.bitCount(presentBits()), loneSets().size()};
        return within(what, 0, 6) ? counts[what] : -1;
    }

    int sheet(int sheet, int sort, int n) {
        if (!within(sheet, 0, 3) || !within(sort, -1, 2) || sort != -1 && !within(n, 0, 40)) {
            return refuse(1);
        }
        sheets[sheet] = sort == -1 ? null : sort == 0 ? new byte[n] : sort == 1 ? new short[n] : new int[n];
        return done(1);
    }

    private static int sizeOf(Object sheet) {
        return java.lang.reflect.Array.getLength(sheet);
    }

    private static int numberOf(Object sheet, int i) {
        return java.lang.reflect.Array.getInt(sheet, i);
    }

    private static int sortOf(Object sheet) {
        return sheet instanceof byte[] ? 0 : sheet instanceof short[] ? 1 : 2;
    }

    int cell(int sheet, int i, int v) {
        if (!within(sheet, 0, 3) || !within(v, -10000, 10000)) {
            return refuse(1);
        }
        Object held = sheets[sheet];
        if (held == null) {
            return refuse(10);
        }
        if (!within(i, 0, sizeOf(held) - 1)) {
            return refuse(12);
        }
        if (held instanceof byte[]) {
            ((byte[]) held)[i] = (byte) v;
        } else if (held instanceof short[]) {
            ((short[]) held)[i] = (short) v;
        } else {
            ((int[]) held)[i] = v;
        }
        return done(1);
    }

    int come(int sheet, int sort) {
        if (!within(sheet, 0, 3) || !within(sort, 0, 2)) {
            return refuse(1);
        }
        Object held = sheets[sheet];
        if (held == null || sortOf(held) != sort) {
            return refuse(held == null ? 10 : 11);
        }
        if (sizeOf(held) > 20) {
            return refuse(2);
        }
        List<Integer> tape = new ArrayList<>();
        for (int i = 0; i < sizeOf(held); i++) {
            tape.add(numberOf(held, i));
            if (!within(numberOf(held, i), 10, 9999)) {
                return refuse(3);
            }
        }
        now.tape = tape;
        return done(tape.size());
    }

    int forge(int what, int n, int k) {
        if (!within(what, 0, 6) || !within(n, -100, 100) || !within(k, -100, 100)) {
            return refuse(1);
        }
        try {
            return done(byTheHost(what, n, k));
        } catch (NullPointerException nothing) {
            return refuse(10);
        } catch (ClassCastException other) {
            return refuse(11);
        } catch (IndexOutOfBoundsException outside) {
            return refuse(12);
        } catch (NegativeArraySizeException below) {
            return refuse(13);
        } catch (ArrayStoreException fits) {
            return refuse(14);
        } catch (ArithmeticException divided) {
            return refuse(15);
        }
    }

    private int byTheHost(int what, int n, int k) {
        int place = Math.floorMod(k, 60);
        Kind c = place < now.changes.size() ? now.changes.get(place) : null;
        Object held = sheets[Math.floorMod(k, 4)];
        switch (what) {
            case 0:
                return castTo(c, Math.floorMod(n, 6)).kind;
            case 1:
                return new int[n].length;
            case 2:
                return ((short[]) held)[n];
            case 3:
                return copied((byte[]) held, n);
            case 4:
                Kind[] row = new FormedKind[1];
                row[0] = c;
                return c == null ? 0 : c.kind;
            case 5:
                return 1000 / n;
            default:
                return thrown(Math.floorMod(n, 2) == 0 ? null : new IllegalStateException());
        }
    }

    private static Kind castTo(Kind c, int kind) {
        switch (kind) {
            case 1:
                return (FormedKind) c;
            case 2:
                return (MadeKind) c;
            case 3:
                return (PairedKind) c;
            case 4:
                return (BackKind) c;
            case 5:
                return (MovedKind) c;
            default:
                return c;
        }
    }

    private static int copied(byte[] sheet, int n) {
        byte[] row = new byte[6];
        System.arraycopy(sheet, 1, row, n, n);
        int sum = 0;
        for (byte b : row) {
            sum += b;
        }
        return sum;
    }

    private static int thrown(RuntimeException failure) {
        try {
            throw failure;
        } catch (IllegalStateException caught) {
            return 1;
        }
    }
}
