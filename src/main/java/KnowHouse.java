import java.util.Arrays;

/**
 * Who knows this code: files whose lines are followed through changes of kinds, and what people know of them.
 * The words in capitals are those of the document.
 */
public final class KnowHouse {
    public static final int NONE = -1;

    private static final int MOST_PEOPLE = 8;
    private static final int MOST_HOURS = 99;
    private static final int FILES = 6;
    private static final int MOST_LINES = 20;
    private static final int MOST_CHANGES = 60;
    private static final int MOST_MARKS = 8;
    private static final int MOST_DAYS_ON = 1000;
    private static final int LAST_DAY = 100000;
    private static final int FIRST_SHARE = 50;
    private static final int WHOLE_SHARE = 100;
    private static final int LEAST_TEXT = 10;
    private static final int MOST_TEXT = 9999;
    private static final int MOST_RESTORED = 10;
    private static final int KNOWN_FROM = 5;
    private static final int MOST_MANY = 3;
    private static final int NO_PLAN = -2;

    private static final int CHANGE = 0;
    private static final int FORMED = 1;
    private static final int MADE = 2;
    private static final int PAIRED = 3;
    private static final int BACK = 4;
    private static final int MOVED = 5;
    private static final int KINDS = 6;
    /** The KIND that each KIND is under. */
    private static final int[] KIND_ABOVE = {NONE, CHANGE, CHANGE, CHANGE, CHANGE, FORMED};

    private static final int MISSING = -1;
    private static final int BYTES = 0;
    private static final int SHORTS = 1;
    private static final int INTS = 2;
    private static final int SHEETS = 4;
    private static final int MOST_NUMBERS = 40;
    private static final int MOST_CELL = 10000;

    private static final int MOST_FORGED = 100;
    private static final int FORGED_ROW = 6;
    private static final int FORGED_DIVIDEND = 1000;

    private static final int DONE = 0;
    private static final int NO_SUCH = 1;
    private static final int NO_ROOM = 2;
    private static final int NOT_SO = 3;
    private static final int NOTHING_THERE = 10;
    private static final int OTHER_SORT = 11;
    private static final int PLACE_OUTSIDE = 12;
    private static final int SIZE_BELOW_0 = 13;
    private static final int NOT_FITTING = 14;
    private static final int DIVIDED_BY_0 = 15;

    private final State now = new State();
    private final State saved = new State();
    private final Keeping keeping = new Keeping();
    private final Teams teams = new Teams();
    private final Planner planner = new Planner();
    private final Acts acts = new Acts();
    private final Sheet[] sheets = new Sheet[SHEETS];
    private boolean isSaved;
    private int restored;
    private int status;

    public KnowHouse() {
        for (int i = 0; i < SHEETS; i++) {
            sheets[i] = new Sheet();
        }
    }

    public int person(int hours) {
        if (hours < 0 || hours > MOST_HOURS) {
            return refused(NO_SUCH);
        }
        if (now.people >= MOST_PEOPLE) {
            return refused(NO_ROOM);
        }
        return done(now.addPerson(hours));
    }

    public int here(int person, boolean is) {
        if (!now.isPerson(person)) {
            return refused(NO_SUCH);
        }
        boolean was = now.isHere(person);
        now.present = is ? now.present | 1 << person : now.present & ~(1 << person);
        return done(was == is ? 0 : 1);
    }

    public int day(int n) {
        if (n < 0 || n > MOST_DAYS_ON) {
            return refused(NO_SUCH);
        }
        if (now.day + n > LAST_DAY) {
            return refused(NO_ROOM);
        }
        now.day += n;
        return done(now.day);
    }

    public int share(int n) {
        if (n < 1 || n > WHOLE_SHARE) {
            return refused(NO_SUCH);
        }
        int was = now.share;
        now.share = n;
        return done(was);
    }

    public int text(int text) {
        if (!isText(text)) {
            return refused(NO_SUCH);
        }
        if (now.taped >= MOST_LINES) {
            return refused(NO_ROOM);
        }
        now.tape[now.taped] = text;
        now.taped++;
        return done(now.taped);
    }

    public int wipe() {
        int had = now.taped;
        now.taped = 0;
        return done(had);
    }

    public int change(int kind, int file, int hand, int other) {
        boolean isPaired = kind == PAIRED;
        if (kind < 0 || kind >= KINDS || kind == BACK || now.pageOf(file) == null || !now.isPerson(hand)) {
            return refused(NO_SUCH);
        }
        if (isPaired && (!now.isPerson(other) || other == hand)) {
            return refused(NO_SUCH);
        }
        if (now.changed >= MOST_CHANGES) {
            return refused(NO_ROOM);
        }
        if (!now.isHere(hand) || isPaired && !now.isHere(other)) {
            return refused(NOT_SO);
        }
        Change change = new Change(now, kind, file, hand, isPaired ? other : NONE);
        Page after = keeping.after(change, now.tape, now.taped);
        now.addChange(change, after);
        now.taped = 0;
        return done(change.number);
    }

    public int back(int change, int hand) {
        Change undone = now.changeOf(change);
        if (undone == null || !now.isPerson(hand)) {
            return refused(NO_SUCH);
        }
        if (now.changed >= MOST_CHANGES) {
            return refused(NO_ROOM);
        }
        if (!now.isHere(hand)) {
            return refused(NOT_SO);
        }
        Change back = new Change(now, BACK, undone.file, hand, change);
        back.lasting = undone.ahead.size();
        now.addChange(back, undone.ahead);
        return done(back.number);
    }

    public int read(int person, int file, int from, int to) {
        Page page = now.pageOf(file);
        if (!now.isPerson(person) || page == null || from < 0 || to >= page.size() || from > to) {
            return refused(NO_SUCH);
        }
        if (!now.isHere(person)) {
            return refused(NOT_SO);
        }
        now.pages[file] = page.readBy(person, now.day, from, to);
        return done(to - from + 1);
    }

    public int image() {
        saved.become(now);
        isSaved = true;
        return done(1);
    }

    public int restore() {
        if (restored >= MOST_RESTORED) {
            return refused(NO_ROOM);
        }
        if (!isSaved) {
            return refused(NOT_SO);
        }
        now.become(saved);
        restored++;
        return done(now.day);
    }

    public int lines(int file) {
        Page page = now.pageOf(file);
        return page == null ? NONE : page.size();
    }

    public int line(int file, int i, int what) {
        Line line = now.lineOf(file, i);
        if (line == null) {
            return NONE;
        }
        switch (what) {
            case 0:
                return line.text;
            case 1:
                return line.maker;
            case 2:
                return line.markCount();
            default:
                return NONE;
        }
    }

    public int mark(int file, int i, int k, int what) {
        Line line = now.lineOf(file, i);
        return line == null ? NONE : line.markTold(k, what);
    }

    public int changeTold(int change, int what) {
        Change told = now.changeOf(change);
        if (told == null) {
            return NONE;
        }
        switch (what) {
            case 0:
                return told.kind;
            case 1:
                return told.file;
            case 2:
                return told.hand;
            case 3:
                return told.other;
            case 4:
                return told.day;
            case 5:
                return told.lasting;
            case 6:
                return told.ahead.size();
            case 7:
                return now.linesMadeBy(change);
            default:
                return NONE;
        }
    }

    public int points(int person, int file, int i) {
        Line line = now.lineOf(file, i);
        return line == null || !now.isPerson(person) ? NONE : line.pointsOf(person, now.day, 0);
    }

    public int knows(int person, int file) {
        Page page = now.pageOf(file);
        return page == null || !now.isPerson(person) ? NONE : page.knownBy(person, now.day);
    }

    public int able(int person, int file) {
        Page page = now.pageOf(file);
        if (page == null || !now.isPerson(person)) {
            return NONE;
        }
        return now.isAble(person, page) ? 1 : 0;
    }

    public int lost(int people) {
        if ((people & (-1 << now.people)) != 0) {
            return NONE;
        }
        teams.gather(now);
        return teams.lostWithout(people);
    }

    public int lone(int i) {
        if (i < 0 || i >= FILES) {
            return NONE;
        }
        teams.gather(now);
        int set = teams.loneAfter(0);
        for (int step = 0; step < i && set != 0; step++) {
            set = teams.loneAfter(set);
        }
        return set == 0 ? NONE : set;
    }

    public int cover() {
        teams.gather(now);
        return teams.fewest(now.present);
    }

    public int plan(int many, int what) {
        if (many < 1 || many > MOST_MANY || what < -1 || what >= now.people) {
            return NO_PLAN;
        }
        teams.gather(now);
        if (!planner.workOut(now, teams, many)) {
            return NO_PLAN;
        }
        return what == -1 ? planner.hours : planner.chosen[what];
    }

    public int sum(int person, int file) {
        if (!now.isPerson(person) || file != -1 && now.pageOf(file) == null) {
            return NONE;
        }
        int sum = 0;
        for (int f = 0; f < FILES; f++) {
            if (file == -1 || file == f) {
                sum += now.shareOf(person, now.pages[f]);
            }
        }
        return sum;
    }

    public int count(int what) {
        switch (what) {
            case 0:
                return now.people;
            case 1:
                return now.changed;
            case 2:
                return now.day;
            case 3:
                return now.share;
            case 4:
                return now.taped;
            case 5:
                return Integer.bitCount(now.present);
            case 6:
                return countLone();
            case 7:
                return acts.traced;
            default:
                return NONE;
        }
    }

    public int act(int change, int act, int x) {
        Change actor = now.changeOf(change);
        if (actor == null || act < 0 || act >= Acts.ACTS) {
            return refused(NO_SUCH);
        }
        return done(acts.perform(actor, act, x));
    }

    public int trace(int i) {
        return i < 0 || i >= acts.traced ? NONE : acts.bodies[i];
    }

    public int sheet(int sheet, int sort, int n) {
        Sheet made = sheetOf(sheet);
        if (made == null || sort < MISSING || sort > INTS) {
            return refused(NO_SUCH);
        }
        if (sort != MISSING && (n < 0 || n > MOST_NUMBERS)) {
            return refused(NO_SUCH);
        }
        made.begin(sort, sort == MISSING ? 0 : n);
        return done(1);
    }

    public int cell(int sheet, int i, int v) {
        Sheet held = sheetOf(sheet);
        if (held == null || v < -MOST_CELL || v > MOST_CELL) {
            return refused(NO_SUCH);
        }
        if (held.sort == MISSING) {
            return refused(NOTHING_THERE);
        }
        if (i < 0 || i >= held.size) {
            return refused(PLACE_OUTSIDE);
        }
        held.numbers[i] = held.sort == BYTES ? (byte) v : v;
        return done(1);
    }

    public int come(int sheet, int sort) {
        Sheet held = sheetOf(sheet);
        if (held == null || sort < BYTES || sort > INTS) {
            return refused(NO_SUCH);
        }
        if (held.sort == MISSING) {
            return refused(NOTHING_THERE);
        }
        if (held.sort != sort) {
            return refused(OTHER_SORT);
        }
        if (held.size > MOST_LINES) {
            return refused(NO_ROOM);
        }
        if (!held.holdsTexts()) {
            return refused(NOT_SO);
        }
        System.arraycopy(held.numbers, 0, now.tape, 0, held.size);
        now.taped = held.size;
        return done(now.taped);
    }

    public int forge(int what, int n, int k) {
        if (n < -MOST_FORGED || n > MOST_FORGED || k < -MOST_FORGED || k > MOST_FORGED) {
            return refused(NO_SUCH);
        }
        switch (what) {
            case 0:
                return takeForKind(now.changeOf(Math.floorMod(k, MOST_CHANGES)), Math.floorMod(n, KINDS));
            case 1:
                return n < 0 ? refused(SIZE_BELOW_0) : done(n);
            case 2:
                return takeNumber(sheetOf(Math.floorMod(k, SHEETS)), n);
            case 3:
                return copyNumbers(sheetOf(Math.floorMod(k, SHEETS)), n);
            case 4:
                return putAmongFormed(now.changeOf(Math.floorMod(k, MOST_CHANGES)));
            case 5:
                return n == 0 ? refused(DIVIDED_BY_0) : done(FORGED_DIVIDEND / n);
            case 6:
                return Math.floorMod(n, 2) == 0 ? refused(NOTHING_THERE) : done(1);
            default:
                return refused(NO_SUCH);
        }
    }

    public int status() {
        return status;
    }

    private int done(int answer) {
        status = DONE;
        return answer;
    }

    private int refused(int why) {
        status = why;
        return -1;
    }

    private Sheet sheetOf(int sheet) {
        return sheet >= 0 && sheet < SHEETS ? sheets[sheet] : null;
    }

    private int countLone() {
        teams.gather(now);
        int found = 0;
        int set = teams.loneAfter(0);
        while (found < FILES && set != 0) {
            found++;
            set = teams.loneAfter(set);
        }
        return found;
    }

    private int takeForKind(Change change, int kind) {
        if (change == null) {
            return refused(NOTHING_THERE);
        }
        return isUnder(change.kind, kind) ? done(change.kind) : refused(OTHER_SORT);
    }

    private int takeNumber(Sheet sheet, int i) {
        if (sheet == null || sheet.sort == MISSING) {
            return refused(NOTHING_THERE);
        }
        if (sheet.sort != SHORTS) {
            return refused(OTHER_SORT);
        }
        return i < 0 || i >= sheet.size ? refused(PLACE_OUTSIDE) : done(sheet.numbers[i]);
    }

    private int copyNumbers(Sheet sheet, int n) {
        if (sheet == null || sheet.sort == MISSING) {
            return refused(NOTHING_THERE);
        }
        if (sheet.sort != BYTES) {
            return refused(OTHER_SORT);
        }
        if (n < 0 || 1 + n > sheet.size || n + n > FORGED_ROW) {
            return refused(PLACE_OUTSIDE);
        }
        int sum = 0;
        for (int i = 1; i <= n; i++) {
            sum += sheet.numbers[i];
        }
        return done(sum);
    }

    private int putAmongFormed(Change change) {
        if (change == null) {
            return done(0);
        }
        return isUnder(change.kind, FORMED) ? done(change.kind) : refused(NOT_FITTING);
    }

    private static boolean isText(int number) {
        return number >= LEAST_TEXT && number <= MOST_TEXT;
    }

    /** Whether a KIND is the top one or one under it, by others between, too. */
    private static boolean isUnder(int kind, int top) {
        int at = kind;
        for (int step = 0; step < KINDS && at >= 0 && at < KINDS; step++) {
            if (at == top) {
                return true;
            }
            at = KIND_ABOVE[at];
        }
        return false;
    }

    /** A LINE at one time. Nothing alters it, so that FILES, CHANGES and the IMAGE may hold the same one. */
    private static final class Line {
        static final int MARK_SIZE = 3;
        static final int READ_POINTS = 3;
        private static final int DAYS_A_POINT = 10;

        final int text;
        final int maker;
        /** PERSON, DAY, POINTS of the first MARK, then those of the next one. */
        final int[] marks;

        Line(int text, int maker, int[] marks) {
            this.text = text;
            this.maker = maker;
            this.marks = marks;
        }

        int markCount() {
            return marks.length / MARK_SIZE;
        }

        int markTold(int k, int what) {
            if (k < 0 || k >= markCount() || what < 0 || what >= MARK_SIZE) {
                return NONE;
            }
            return marks[k * MARK_SIZE + what];
        }

        /** What the MARKS of a PERSON, from one of them on, are WORTH together. */
        int pointsOf(int person, int day, int firstMark) {
            int together = 0;
            for (int at = firstMark * MARK_SIZE; at + 2 < marks.length; at += MARK_SIZE) {
                int worth = marks[at + 2] - (day - marks[at + 1]) / DAYS_A_POINT;
                if (marks[at] == person && worth > 0) {
                    together += worth;
                }
            }
            return together;
        }

        int pointsIfRead(int person, int day) {
            return pointsOf(person, day, marksToGo()) + READ_POINTS;
        }

        Line withText(int newText) {
            return newText == text ? this : new Line(newText, maker, marks);
        }

        Line readBy(int person, int day) {
            int gone = marksToGo() * MARK_SIZE;
            int left = marks.length - gone;
            int[] more = new int[left + MARK_SIZE];
            System.arraycopy(marks, gone, more, 0, left);
            more[left] = person;
            more[left + 1] = day;
            more[left + 2] = READ_POINTS;
            return new Line(text, maker, more);
        }

        /** How many MARKS have to go before another one comes. */
        private int marksToGo() {
            return marks.length < MOST_MARKS * MARK_SIZE ? 0 : 1;
        }
    }

    /** The LINES of a FILE at one time; like them, it is never altered once it is filled. */
    private static final class Page {
        final Line[] rows;

        Page(Line[] rows) {
            this.rows = rows;
        }

        int size() {
            return rows.length;
        }

        Line rowAt(int i) {
            return i >= 0 && i < rows.length ? rows[i] : null;
        }

        int knownBy(int person, int day) {
            int known = 0;
            for (Line row : rows) {
                if (row.pointsOf(person, day, 0) >= KNOWN_FROM) {
                    known++;
                }
            }
            return known;
        }

        int knownIfRead(int person, int day) {
            int known = 0;
            for (Line row : rows) {
                if (row.pointsIfRead(person, day) >= KNOWN_FROM) {
                    known++;
                }
            }
            return known;
        }

        int madeBy(int change) {
            int made = 0;
            for (Line row : rows) {
                if (row.maker == change) {
                    made++;
                }
            }
            return made;
        }

        Page readBy(int person, int day, int from, int to) {
            Line[] after = new Line[rows.length];
            for (int i = 0; i < rows.length; i++) {
                after[i] = i >= from && i <= to ? rows[i].readBy(person, day) : rows[i];
            }
            return new Page(after);
        }
    }

    /** A CHANGE, with the LINES that its FILE had ahead of it. */
    private static final class Change {
        private static final int WRITTEN_POINTS = 8;
        private static final int MADE_POINTS = 2;
        private static final int PAIRED_POINTS = 5;

        final int number;
        final int kind;
        final int file;
        final int hand;
        /** The second HAND; of a BACK the CHANGE that it undoes. */
        final int other;
        final int day;
        final Page ahead;
        /** How many LINES it KEPT; of a BACK: how many there are then. */
        int lasting;

        Change(State now, int kind, int file, int hand, int other) {
            this.number = now.changed;
            this.kind = kind;
            this.file = file;
            this.hand = hand;
            this.other = other;
            this.day = now.day;
            this.ahead = now.pages[file];
        }

        /** The MARKS of its new LINES: one row that all of them may hold, as rows of MARKS are never altered. */
        int[] firstMarks() {
            if (kind == PAIRED) {
                return new int[] {hand, day, PAIRED_POINTS, other, day, PAIRED_POINTS};
            }
            return new int[] {hand, day, kind == MADE ? MADE_POINTS : WRITTEN_POINTS};
        }

        int shareOf(int person) {
            if (kind == PAIRED) {
                return hand == person || other == person ? 1 : 0;
            }
            return hand == person ? 2 : 0;
        }
    }

    /** All that an IMAGE keeps. */
    private static final class State {
        int people;
        final int[] hours = new int[MOST_PEOPLE];
        /** The PEOPLE HERE, as bits. */
        int present;
        int day;
        int share = FIRST_SHARE;
        int taped;
        final int[] tape = new int[MOST_LINES];
        final Page[] pages = new Page[FILES];
        int changed;
        final Change[] changes = new Change[MOST_CHANGES];

        State() {
            Page empty = new Page(new Line[0]);
            for (int f = 0; f < FILES; f++) {
                pages[f] = empty;
            }
        }

        void become(State other) {
            people = other.people;
            present = other.present;
            day = other.day;
            share = other.share;
            taped = other.taped;
            changed = other.changed;
            System.arraycopy(other.hours, 0, hours, 0, MOST_PEOPLE);
            System.arraycopy(other.tape, 0, tape, 0, MOST_LINES);
            for (int f = 0; f < FILES; f++) {
                pages[f] = other.pages[f];
            }
            for (int k = 0; k < MOST_CHANGES; k++) {
                changes[k] = other.changes[k];
            }
        }

        int addPerson(int itsHours) {
            int number = people;
            hours[number] = itsHours;
            present |= 1 << number;
            people++;
            return number;
        }

        void addChange(Change change, Page after) {
            changes[change.number] = change;
            pages[change.file] = after;
            changed++;
        }

        boolean isPerson(int person) {
            return person >= 0 && person < people;
        }

        boolean isHere(int person) {
            return (present >> person & 1) == 1;
        }

        Page pageOf(int file) {
            return file >= 0 && file < FILES ? pages[file] : null;
        }

        Line lineOf(int file, int i) {
            Page page = pageOf(file);
            return page == null ? null : page.rowAt(i);
        }

        Change changeOf(int number) {
            return number >= 0 && number < changed ? changes[number] : null;
        }

        boolean isAble(int person, Page page) {
            return isEnough(page.knownBy(person, day), page);
        }

        boolean isEnough(int known, Page page) {
            return known * WHOLE_SHARE >= share * page.size();
        }

        int linesMadeBy(int change) {
            int made = 0;
            for (Page page : pages) {
                made += page.madeBy(change);
            }
            return made;
        }

        int shareOf(int person, Page page) {
            int together = 0;
            for (Line row : page.rows) {
                Change maker = changeOf(row.maker);
                together += maker == null ? 0 : maker.shareOf(person);
            }
            return together;
        }
    }

    /** Finds which LINES are KEPT by a CHANGE. */
    private static final class Keeping {
        private static final int WIDTH = MOST_LINES + 1;

        /** The most pairs of old LINES from i on with new ones from j on, at i * WIDTH + j. */
        private final int[] most = new int[WIDTH * WIDTH];
        /** For each new LINE the number of the old one, or NONE. */
        private final int[] oldOf = new int[MOST_LINES];
        /** The old LINES that are KEPT, as bits. */
        private int taken;
        private Line[] old;
        private int[] texts;
        private int newSize;
        private boolean isByWording;

        /** The LINES behind a CHANGE that makes them those of the TEXTS; the CHANGE is told how many it KEPT. */
        Page after(Change change, int[] tape, int size) {
            old = change.ahead.rows;
            texts = tape;
            newSize = size;
            isByWording = isUnder(change.kind, FORMED);
            taken = 0;
            countMost();
            pairInOrder();
            if (change.kind == MOVED) {
                pairMoved();
            }
            return newPage(change);
        }

        private boolean isAlike(int i, int j) {
            return isByWording ? wordingOf(old[i].text) == wordingOf(texts[j]) : old[i].text == texts[j];
        }

        private static int wordingOf(int text) {
            return text / 10;
        }

        private void countMost() {
            Arrays.fill(most, 0);
            for (int i = old.length - 1; i >= 0; i--) {
                for (int j = newSize - 1; j >= 0; j--) {
                    int at = i * WIDTH + j;
                    most[at] = isAlike(i, j) ? 1 + most[at + WIDTH + 1] : Math.max(most[at + WIDTH], most[at + 1]);
                }
            }
        }

        /** Of the ways with the most pairs the first: each new LINE takes the least old one that costs no pair. */
        private void pairInOrder() {
            int from = 0;
            for (int j = 0; j < newSize; j++) {
                int i = leastOld(from, j);
                oldOf[j] = i;
                if (i != NONE) {
                    taken |= 1 << i;
                    from = i + 1;
                }
            }
        }

        private int leastOld(int from, int j) {
            int wanted = most[from * WIDTH + j];
            for (int i = from; i < old.length; i++) {
                if (isAlike(i, j) && 1 + most[(i + 1) * WIDTH + j + 1] == wanted) {
                    return i;
                }
            }
            return NONE;
        }

        private void pairMoved() {
            for (int j = 0; j < newSize; j++) {
                if (oldOf[j] == NONE) {
                    int i = firstLeftOf(texts[j]);
                    oldOf[j] = i;
                    if (i != NONE) {
                        taken |= 1 << i;
                    }
                }
            }
        }

        private int firstLeftOf(int text) {
            for (int i = 0; i < old.length; i++) {
                if ((taken >> i & 1) == 0 && old[i].text == text) {
                    return i;
                }
            }
            return NONE;
        }

        private Page newPage(Change change) {
            Line[] rows = new Line[newSize];
            int[] firstMarks = change.firstMarks();
            for (int j = 0; j < newSize; j++) {
                int i = oldOf[j];
                if (i == NONE) {
                    rows[j] = new Line(texts[j], change.number, firstMarks);
                } else {
                    rows[j] = old[i].withText(texts[j]);
                    change.lasting++;
                }
            }
            return new Page(rows);
        }
    }

    /** For each FILE the PEOPLE HERE who are ABLE for it: LOST, LONE and COVER follow from these sets. */
    private static final class Teams {
        private static final int MOST_LONE = 3;

        private final int[] teams = new int[FILES];

        void gather(State now) {
            for (int f = 0; f < FILES; f++) {
                int team = 0;
                for (int p = 0; p < now.people; p++) {
                    if (now.isHere(p) && now.isAble(p, now.pages[f])) {
                        team |= 1 << p;
                    }
                }
                teams[f] = team;
            }
        }

        int sizeOf(int file) {
            return Integer.bitCount(teams[file]);
        }

        int lostWithout(int people) {
            int lost = 0;
            for (int f = 0; f < FILES; f++) {
                if ((teams[f] & ~people) == 0) {
                    lost |= 1 << f;
                }
            }
            return lost;
        }

        /**
         * The next LONE set behind a set (0: the first one), or 0. A FILE is LOST by a set and by none that lacks
         * one of it just if the set is the FILE's whole team.
         */
        int loneAfter(int set) {
            int next = 0;
            for (int team : teams) {
                boolean isLone = team != 0 && Integer.bitCount(team) <= MOST_LONE;
                if (isLone && isAhead(set, team) && (next == 0 || isAhead(team, next))) {
                    next = team;
                }
            }
            return next;
        }

        /** The smallest set of the PEOPLE HERE that meets each team that has anybody. */
        int fewest(int present) {
            int best = present;
            for (int set = 0; set <= present; set++) {
                if ((set & ~present) == 0 && isAhead(set, best) && meetsAll(set)) {
                    best = set;
                }
            }
            return best;
        }

        private boolean meetsAll(int set) {
            for (int team : teams) {
                if (team != 0 && (team & set) == 0) {
                    return false;
                }
            }
            return true;
        }

        private static boolean isAhead(int set, int other) {
            int less = Integer.bitCount(set) - Integer.bitCount(other);
            return less < 0 || less == 0 && set < other;
        }
    }

    /**
     * Works THE PLAN out. Each PERSON that a FILE still needs is a slot, a bit: with one TASK a PERSON there can be
     * no more slots than PEOPLE, so that all sets of open slots are few.
     */
    private static final class Planner {
        private static final int SETS = 1 << MOST_PEOPLE;
        /** Above the HOURS of any PLAN. */
        private static final int NEVER = 1000000;

        int hours;
        final int[] chosen = new int[MOST_PEOPLE];
        /** For each FILE its slots, as bits. */
        private final int[] slotsOf = new int[FILES];
        private int slots;
        /** HOURS of the TASK of a PERSON for a FILE, NEVER: there is none; at person * FILES + file. */
        private final int[] taskHours = new int[MOST_PEOPLE * FILES];
        /** The least HOURS in which this PERSON and those behind it fill the open slots, at person * SETS + slots. */
        private final int[] least = new int[(MOST_PEOPLE + 1) * SETS];

        /** Whether there is a PLAN; hours and chosen tell it then. */
        boolean workOut(State now, Teams teams, int many) {
            priceTasks(now);
            if (!openSlots(now, teams, many)) {
                return false;
            }
            countLeast();
            hours = least[slots];
            if (hours >= NEVER) {
                return false;
            }
            choose();
            return true;
        }

        private void priceTasks(State now) {
            for (int p = 0; p < MOST_PEOPLE; p++) {
                for (int f = 0; f < FILES; f++) {
                    boolean mayRead = now.isPerson(p) && now.isHere(p);
                    taskHours[p * FILES + f] = mayRead ? priceOf(now, p, now.pages[f]) : NEVER;
                }
            }
        }

        private static int priceOf(State now, int person, Page page) {
            int known = page.knownBy(person, now.day);
            int itsHours = page.size() - known;
            boolean isTask = !now.isEnough(known, page) && itsHours <= now.hours[person]
                    && now.isEnough(page.knownIfRead(person, now.day), page);
            return isTask ? itsHours : NEVER;
        }

        /** Whether the slots are no more than the PEOPLE there can be. */
        private boolean openSlots(State now, Teams teams, int many) {
            int opened = 0;
            for (int f = 0; f < FILES; f++) {
                int lacking = now.pages[f].size() == 0 ? 0 : Math.max(0, many - teams.sizeOf(f));
                if (opened + lacking > MOST_PEOPLE) {
                    return false;
                }
                slotsOf[f] = ((1 << lacking) - 1) << opened;
                opened += lacking;
            }
            slots = (1 << opened) - 1;
            return true;
        }

        private void countLeast() {
            Arrays.fill(least, NEVER);
            least[MOST_PEOPLE * SETS] = 0;
            for (int p = MOST_PEOPLE - 1; p >= 0; p--) {
                for (int open = 0; open <= slots; open++) {
                    int best = least[(p + 1) * SETS + open];
                    for (int f = 0; f < FILES; f++) {
                        best = Math.min(best, hoursWith(p, f, open));
                    }
                    least[p * SETS + open] = best;
                }
            }
        }

        /**
         * The least HOURS from a PERSON on if it has the TASK for a FILE. Each TASK takes HOURS, so that THE PLAN
         * has none that fills no slot.
         */
        private int hoursWith(int p, int f, int open) {
            if ((open & slotsOf[f]) == 0 || taskHours[p * FILES + f] >= NEVER) {
                return NEVER;
            }
            return taskHours[p * FILES + f] + least[(p + 1) * SETS + filled(f, open)];
        }

        private int filled(int f, int open) {
            return open & ~Integer.lowestOneBit(open & slotsOf[f]);
        }

        private void choose() {
            int open = slots;
            for (int p = 0; p < MOST_PEOPLE; p++) {
                chosen[p] = firstFile(p, open);
                if (chosen[p] != NONE) {
                    open = filled(chosen[p], open);
                }
            }
        }

        private int firstFile(int p, int open) {
            for (int f = 0; f < FILES; f++) {
                if (hoursWith(p, f, open) == least[p * SETS + open]) {
                    return f;
                }
            }
            return NONE;
        }
    }

    /** The ACTS of CHANGES, and THE TRACE of the latest one. */
    private static final class Acts {
        static final int ACTS = 4;
        private static final int WRITE = 0;
        private static final int MOVE = 1;
        private static final int KNOW = 2;
        private static final int FADE = 3;
        private static final int MOST_TRACED = 50;
        private static final int DEEPEST = 40;
        /** For each KIND its bodies of write, move, know, fade; 0: it has none. */
        private static final int[] BODIES = {
            10, 11, 12, 13,
            20, 0, 0, 21,
            0, 0, 30, 0,
            0, 40, 0, 0,
            0, 0, 0, 50,
            61, 60, 0, 0};

        final int[] bodies = new int[MOST_TRACED];
        int traced;

        int perform(Change c, int act, int x) {
            traced = 0;
            return run(this, c, c.kind, act, x, 0);
        }

        /** Runs the body that the KIND, or else the next one above, has for the ACT. */
        private static int run(Acts acts, Change c, int from, int act, int x, int depth) {
            int kind = kindWithBody(from, act);
            if (kind == NONE || depth > DEEPEST) {
                return 0;
            }
            int above = KIND_ABOVE[kind];
            int body = BODIES[kind * ACTS + act];
            int deeper = depth + 1;
            acts.begin(body);
            switch (body) {
                case 10:
                    return x + c.hand;
                case 11:
                    return run(acts, c, c.kind, WRITE, x, deeper) * 2;
                case 12:
                    return x - c.day;
                case 13:
                    return run(acts, c, c.kind, MOVE, x, deeper) ^ run(acts, c, c.kind, KNOW, x, deeper);
                case 20:
                    return run(acts, c, above, WRITE, x, deeper) + c.number;
                case 21:
                    return run(acts, c, above, FADE, x + 1, deeper);
                case 30:
                    return run(acts, c, above, KNOW, x, deeper) * 3;
                case 40:
                    return run(acts, c, above, MOVE, x, deeper) - run(acts, c, c.kind, WRITE, x, deeper);
                case 50:
                    return run(acts, c, c.kind, KNOW, x, deeper) - run(acts, c, above, FADE, x, deeper);
                case 60:
                    return run(acts, c, above, MOVE, x, deeper) + c.number;
                case 61:
                    return run(acts, c, above, WRITE, x - c.hand, deeper);
                default:
                    return 0;
            }
        }

        private static int kindWithBody(int from, int act) {
            int kind = from;
            for (int step = 0; step < KINDS && kind >= 0 && kind < KINDS; step++) {
                if (BODIES[kind * ACTS + act] != 0) {
                    return kind;
                }
                kind = KIND_ABOVE[kind];
            }
            return NONE;
        }

        private void begin(int body) {
            if (traced < MOST_TRACED) {
                bodies[traced] = body;
                traced++;
            }
        }
    }

    /** A SHEET; the room of its numbers is used again. */
    private static final class Sheet {
        int sort = MISSING;
        int size;
        final int[] numbers = new int[MOST_NUMBERS];

        void begin(int itsSort, int itsSize) {
            sort = itsSort;
            size = itsSize;
            Arrays.fill(numbers, 0);
        }

        boolean holdsTexts() {
            for (int i = 0; i < size; i++) {
                if (!isText(numbers[i])) {
                    return false;
                }
            }
            return true;
        }
    }
}
