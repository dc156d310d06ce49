import java.util.ArrayList;
import java.util.List;
import java.util.function.Consumer;
import java.util.function.ToIntFunction;

/**
 * Promise 32, and what it says of all calls: each STATUS of each call; a refused call answers -1 and changes nothing
 * else; a question changes nothing. Two objects are made alike, one of them has the call: what both answer then is the
 * same.
 */
final class EdgesStatusTest {
    private static final Due DUE = new Due();
    private static final int MOST_CALLS = 512;

    private static final class Call {
        final String name;
        final ToIntFunction<KnowHouse> made;
        final int status;

        Call(String name, int status, ToIntFunction<KnowHouse> made) {
            this.name = name;
            this.status = status;
            this.made = made;
        }
    }

    private interface Asked {
        void ask(KnowHouse x, List<Integer> answers);
    }

    public static void main(String[] args) {
        newObject();
        statusOfEach();
        refusedChangesNothing();
        refusedOfFullChangesNothing();
        questionsChangeNothing();
        doneOnesThatChangeNothing();
        statusStaysForQuestions();
        DUE.end();
    }

    private static void newObject() {
        DUE.sentence(32, "STATUS of the latest call that is no question");
        DUE.is("status() of a new object", new KnowHouse().status(), 0);
    }

    /** Some of everything: PEOPLE (2 is not HERE), all KINDS, MARKS, a TAPE, SHEETS of all sorts, an IMAGE, a TRACE. */
    private static KnowHouse some() {
        KnowHouse x = new KnowHouse();
        x.person(9);
        x.person(3);
        x.person(5);
        x.person(0);
        x.day(13);
        Made.change(x, 0, 0, 0, 0, 100, 110, 120, 130);
        x.image();
        x.restore();
        Made.change(x, 1, 0, 1, 0, 105, 120, 200);
        Made.change(x, 2, 1, 1, 0, 300, 310);
        Made.change(x, 3, 2, 2, 3, 400, 410);
        x.back(1, 3);
        x.day(20);
        Made.change(x, 5, 0, 0, 0, 130, 109, 500);
        x.read(1, 0, 0, 1);
        x.read(3, 1, 1, 1);
        x.here(2, false);
        x.share(40);
        x.text(600);
        x.text(610);
        x.sheet(0, 0, 3);
        x.cell(0, 1, -300);
        x.sheet(1, 1, 2);
        x.cell(1, 0, 700);
        x.sheet(2, 2, 21);
        x.act(5, 3, 7);
        return x;
    }

    /** No room anywhere: eight PEOPLE (7 is not HERE), sixty CHANGES, a full TAPE, the last DAY, ten times restored. */
    private static KnowHouse full() {
        KnowHouse x = Made.with(8, 9);
        Made.day(x, 100000);
        Made.change(x, 0, 0, 0, 0, 100, 110);
        for (int k = 1; k < 60; k++) {
            x.back(0, 1);
        }
        for (int i = 0; i < 20; i++) {
            x.text(500 + i);
        }
        x.here(7, false);
        x.sheet(0, 2, 21);
        x.sheet(1, 1, 2);
        x.image();
        for (int i = 0; i < 10; i++) {
            x.restore();
        }
        return x;
    }

    /** What can be asked, in parts, so that no object has more than its 512 calls. */
    private static List<Asked> asked() {
        List<Asked> all = new ArrayList<>();
        all.add(EdgesStatusTest::askCounts);
        all.add(EdgesStatusTest::askTeams);
        all.add(EdgesStatusTest::askLines);
        all.add(EdgesStatusTest::askChanges);
        all.add(EdgesStatusTest::askKnown);
        all.add(EdgesStatusTest::askSheets);
        all.add(EdgesStatusTest::askTape);
        all.add(EdgesStatusTest::askImage);
        all.add(EdgesStatusTest::askRoom);
        return all;
    }

    private static void askCounts(KnowHouse x, List<Integer> answers) {
        for (int what = 0; what < 8; what++) {
            answers.add(x.count(what));
        }
        for (int f = 0; f < 6; f++) {
            answers.add(x.lines(f));
        }
        for (int i = 0; i < 10; i++) {
            answers.add(x.trace(i));
        }
        for (int p = 0; p < 8; p++) {
            answers.add(x.here(p, true));
        }
    }

    private static void askTeams(KnowHouse x, List<Integer> answers) {
        for (int people = 0; people < 256; people++) {
            answers.add(x.lost(people));
        }
        for (int i = 0; i < 6; i++) {
            answers.add(x.lone(i));
        }
        answers.add(x.cover());
        for (int what = -1; what < 8; what++) {
            answers.add(x.plan(1, what));
            answers.add(x.plan(2, what));
        }
    }

    private static void askLines(KnowHouse x, List<Integer> answers) {
        for (int f = 0; f < 3; f++) {
            for (int i = 0; i < 5; i++) {
                for (int what = 0; what < 9; what++) {
                    answers.add(what < 3 ? x.line(f, i, what) : x.mark(f, i, what / 3 - 1, what % 3));
                }
            }
        }
    }

    private static void askChanges(KnowHouse x, List<Integer> answers) {
        for (int k = 0; k < 8; k++) {
            for (int what = 0; what < 8; what++) {
                answers.add(x.changeTold(k, what));
                answers.add(x.changeTold(59 - k, what));
            }
        }
    }

    private static void askKnown(KnowHouse x, List<Integer> answers) {
        for (int p = 0; p < 8; p++) {
            for (int f = 0; f < 4; f++) {
                answers.add(x.knows(p, f));
                answers.add(x.able(p, f));
                answers.add(x.sum(p, f));
                answers.add(x.points(p, f, 0));
                answers.add(x.points(p, f, 1));
            }
        }
    }

    private static void askSheets(KnowHouse x, List<Integer> answers) {
        for (int s = 0; s < 4; s++) {
            for (int i = 0; i < 22; i++) {
                answers.add(x.forge(2, i, s));
                answers.add(x.status());
            }
            for (int i = 0; i < 4; i++) {
                answers.add(x.forge(3, i, s));
                answers.add(x.status());
            }
            for (int sort = 0; sort < 3; sort++) {
                answers.add(x.come(s, sort));
                answers.add(x.status());
            }
        }
    }

    private static void askTape(KnowHouse x, List<Integer> answers) {
        x.image();
        answers.add(x.text(999));
        answers.add(x.change(0, 4, 0, 0));
        for (int i = 0; i < 21; i++) {
            answers.add(x.line(4, i, 0));
            answers.add(x.line(4, i, 1));
        }
        answers.add(x.wipe());
    }

    private static void askImage(KnowHouse x, List<Integer> answers) {
        answers.add(x.restore());
        answers.add(x.status());
        askCounts(x, answers);
        askChanges(x, answers);
        for (int i = 0; i < 5; i++) {
            answers.add(x.line(0, i, 0));
            answers.add(x.line(0, i, 2));
        }
    }

    /** How much room is left: PEOPLE, days, CHANGES, how often it may be restored. */
    private static void askRoom(KnowHouse x, List<Integer> answers) {
        for (int i = 0; i < 10; i++) {
            answers.add(x.person(1));
            answers.add(x.restore());
        }
        answers.add(x.day(1));
        answers.add(x.change(0, 0, 0, 0));
        answers.add(x.back(0, 0));
        answers.add(x.read(0, 0, 0, 0));
        answers.add(x.act(0, 0, 0));
    }

    private static List<Call> refusedOfSome() {
        List<Call> all = new ArrayList<>();
        all.add(new Call("person(-1)", 1, x -> x.person(-1)));
        all.add(new Call("person(100)", 1, x -> x.person(100)));
        all.add(new Call("here(-1, false)", 1, x -> x.here(-1, false)));
        all.add(new Call("here(4, false)", 1, x -> x.here(4, false)));
        all.add(new Call("day(-1)", 1, x -> x.day(-1)));
        all.add(new Call("day(1001)", 1, x -> x.day(1001)));
        all.add(new Call("share(0)", 1, x -> x.share(0)));
        all.add(new Call("share(101)", 1, x -> x.share(101)));
        all.add(new Call("text(9)", 1, x -> x.text(9)));
        all.add(new Call("text(10000)", 1, x -> x.text(10000)));
        all.add(new Call("change(4, 0, 0, 1)", 1, x -> x.change(4, 0, 0, 1)));
        all.add(new Call("change(0, 6, 0, 1)", 1, x -> x.change(0, 6, 0, 1)));
        all.add(new Call("change(0, 0, 4, 1)", 1, x -> x.change(0, 0, 4, 1)));
        all.add(new Call("change(3, 0, 0, 0)", 1, x -> x.change(3, 0, 0, 0)));
        all.add(new Call("change(3, 0, 0, 4)", 1, x -> x.change(3, 0, 0, 4)));
        all.add(new Call("change(0, 0, 2, 1)", 3, x -> x.change(0, 0, 2, 1)));
        all.add(new Call("change(3, 0, 2, 1)", 3, x -> x.change(3, 0, 2, 1)));
        all.add(new Call("change(3, 0, 0, 2)", 3, x -> x.change(3, 0, 0, 2)));
        all.add(new Call("back(6, 0)", 1, x -> x.back(6, 0)));
        all.add(new Call("back(0, 4)", 1, x -> x.back(0, 4)));
        all.add(new Call("back(0, 2)", 3, x -> x.back(0, 2)));
        all.add(new Call("read(4, 0, 0, 0)", 1, x -> x.read(4, 0, 0, 0)));
        all.add(new Call("read(0, 6, 0, 0)", 1, x -> x.read(0, 6, 0, 0)));
        all.add(new Call("read(0, 0, -1, 1)", 1, x -> x.read(0, 0, -1, 1)));
        all.add(new Call("read(0, 0, 1, 3)", 1, x -> x.read(0, 0, 1, 3)));
        all.add(new Call("read(0, 0, 1, 0)", 1, x -> x.read(0, 0, 1, 0)));
        all.add(new Call("read(2, 0, 0, 1)", 3, x -> x.read(2, 0, 0, 1)));
        all.add(new Call("act(6, 0, 1)", 1, x -> x.act(6, 0, 1)));
        all.add(new Call("act(0, 4, 1)", 1, x -> x.act(0, 4, 1)));
        addRefusedSheets(all);
        addRefusedForges(all);
        return all;
    }

    private static void addRefusedSheets(List<Call> all) {
        all.add(new Call("sheet(4, 0, 1)", 1, x -> x.sheet(4, 0, 1)));
        all.add(new Call("sheet(0, 3, 1)", 1, x -> x.sheet(0, 3, 1)));
        all.add(new Call("sheet(0, -2, 1)", 1, x -> x.sheet(0, -2, 1)));
        all.add(new Call("sheet(0, 0, 41)", 1, x -> x.sheet(0, 0, 41)));
        all.add(new Call("sheet(0, 0, -1)", 1, x -> x.sheet(0, 0, -1)));
        all.add(new Call("cell(4, 0, 1)", 1, x -> x.cell(4, 0, 1)));
        all.add(new Call("cell(1, 0, 10001)", 1, x -> x.cell(1, 0, 10001)));
        all.add(new Call("cell(3, 0, 1)", 10, x -> x.cell(3, 0, 1)));
        all.add(new Call("cell(1, 2, 1)", 12, x -> x.cell(1, 2, 1)));
        all.add(new Call("cell(1, -1, 1)", 12, x -> x.cell(1, -1, 1)));
        all.add(new Call("come(4, 0)", 1, x -> x.come(4, 0)));
        all.add(new Call("come(1, 3)", 1, x -> x.come(1, 3)));
        all.add(new Call("come(3, 1)", 10, x -> x.come(3, 1)));
        all.add(new Call("come(1, 2)", 11, x -> x.come(1, 2)));
        all.add(new Call("come(2, 2)", 2, x -> x.come(2, 2)));
        all.add(new Call("come(1, 1)", 3, x -> x.come(1, 1)));
    }

    private static void addRefusedForges(List<Call> all) {
        all.add(new Call("forge(7, 0, 0)", 1, x -> x.forge(7, 0, 0)));
        all.add(new Call("forge(1, 101, 0)", 1, x -> x.forge(1, 101, 0)));
        all.add(new Call("forge(1, 1, -101)", 1, x -> x.forge(1, 1, -101)));
        all.add(new Call("forge(0, 0, 6)", 10, x -> x.forge(0, 0, 6)));
        all.add(new Call("forge(0, 2, 1)", 11, x -> x.forge(0, 2, 1)));
        all.add(new Call("forge(1, -1, 0)", 13, x -> x.forge(1, -1, 0)));
        all.add(new Call("forge(2, 0, 3)", 10, x -> x.forge(2, 0, 3)));
        all.add(new Call("forge(2, 0, 0)", 11, x -> x.forge(2, 0, 0)));
        all.add(new Call("forge(2, 2, 1)", 12, x -> x.forge(2, 2, 1)));
        all.add(new Call("forge(3, 0, 3)", 10, x -> x.forge(3, 0, 3)));
        all.add(new Call("forge(3, 0, 1)", 11, x -> x.forge(3, 0, 1)));
        all.add(new Call("forge(3, 3, 0)", 12, x -> x.forge(3, 3, 0)));
        all.add(new Call("forge(4, 0, 0)", 14, x -> x.forge(4, 0, 0)));
        all.add(new Call("forge(5, 0, 0)", 15, x -> x.forge(5, 0, 0)));
        all.add(new Call("forge(6, 0, 0)", 10, x -> x.forge(6, 0, 0)));
    }

    private static List<Call> refusedOfFull() {
        List<Call> all = new ArrayList<>();
        all.add(new Call("person(9)", 2, x -> x.person(9)));
        all.add(new Call("day(1)", 2, x -> x.day(1)));
        all.add(new Call("text(10)", 2, x -> x.text(10)));
        all.add(new Call("change(0, 0, 0, 1)", 2, x -> x.change(0, 0, 0, 1)));
        all.add(new Call("change(3, 0, 0, 7)", 2, x -> x.change(3, 0, 0, 7)));
        all.add(new Call("back(0, 0)", 2, x -> x.back(0, 0)));
        all.add(new Call("back(0, 7)", 2, x -> x.back(0, 7)));
        all.add(new Call("restore()", 2, x -> x.restore()));
        all.add(new Call("come(0, 2)", 2, x -> x.come(0, 2)));
        return all;
    }

    private static void statusOfEach() {
        DUE.sentence(32, "STATUS of the latest call that is no question (person, here, day, share, text, wipe, change,"
                + " back, read, image, restore, sheet, cell, come, act, forge): 0 done");
        List<Call> done = new ArrayList<>();
        done.add(new Call("person(1)", 0, x -> x.person(1)));
        done.add(new Call("here(0, true)", 0, x -> x.here(0, true)));
        done.add(new Call("day(1)", 0, x -> x.day(1)));
        done.add(new Call("share(1)", 0, x -> x.share(1)));
        done.add(new Call("text(10)", 0, x -> x.text(10)));
        done.add(new Call("wipe()", 0, x -> x.wipe()));
        done.add(new Call("change(0, 0, 0, 0)", 0, x -> x.change(0, 0, 0, 0)));
        done.add(new Call("back(0, 0)", 0, x -> x.back(0, 0)));
        done.add(new Call("read(0, 0, 0, 0)", 0, x -> x.read(0, 0, 0, 0)));
        done.add(new Call("image()", 0, x -> x.image()));
        done.add(new Call("restore()", 0, x -> x.restore()));
        done.add(new Call("sheet(0, 0, 1)", 0, x -> x.sheet(0, 0, 1)));
        done.add(new Call("cell(0, 0, 1)", 0, x -> x.cell(0, 0, 1)));
        done.add(new Call("come(3, 2)", 0, x -> x.come(3, 2)));
        done.add(new Call("act(0, 0, 1)", 0, x -> x.act(0, 0, 1)));
        done.add(new Call("forge(1, 1, 0)", 0, x -> x.forge(1, 1, 0)));
        List<Call> refused = refusedOfSome();
        for (Call call : done) {
            for (Call before : refused) {
                KnowHouse x = some();
                x.sheet(3, 2, 0);
                before.made.applyAsInt(x);
                call.made.applyAsInt(x);
                DUE.is("status() behind " + before.name + " and " + call.name, x.status(), 0);
            }
        }
    }

    private static void refusedChangesNothing() {
        DUE.sentence(32, "Such calls answer -1 and change nothing else.");
        for (Call call : refusedOfSome()) {
            KnowHouse x = some();
            DUE.refused(x, call.name, call.made.applyAsInt(x), call.status);
            sameBehind(call, true);
        }
        KnowHouse noImage = Made.with(1, 0);
        DUE.refused(noImage, "restore()", noImage.restore(), 3);
    }

    private static void refusedOfFullChangesNothing() {
        DUE.sentence(32, "2 there is no room");
        for (Call call : refusedOfFull()) {
            KnowHouse x = full();
            DUE.refused(x, call.name, call.made.applyAsInt(x), call.status);
            sameBehind(call, false);
        }
    }

    private static void sameBehind(Call call, boolean ofSome) {
        for (Asked part : asked()) {
            KnowHouse x = ofSome ? some() : full();
            KnowHouse y = ofSome ? some() : full();
            call.made.applyAsInt(x);
            List<Integer> behind = new ArrayList<>();
            List<Integer> without = new ArrayList<>();
            part.ask(x, behind);
            part.ask(y, without);
            DUE.is("how much can be asked", without.size() < MOST_CALLS - 200 ? 1 : 0, 1);
            for (int i = 0; i < without.size(); i++) {
                DUE.is("answer " + i + " behind " + call.name, behind.get(i), without.get(i));
            }
        }
    }

    private static void questionsChangeNothing() {
        DUE.sentence(32, "the latest call that is no question");
        Consumer<KnowHouse> ask = x -> {
            for (int n = -1; n < 4; n++) {
                x.lines(n);
                x.line(0, n, n);
                x.mark(0, n, 0, 1);
                x.changeTold(n, n);
                x.points(n, 0, n);
                x.knows(n, 0);
                x.able(n, 0);
                x.lost(n);
                x.lone(n);
                x.cover();
                x.plan(n, -1);
                x.plan(1, n);
                x.sum(n, -1);
                x.count(n);
                x.count(n + 4);
                x.trace(n);
                x.status();
            }
        };
        sameBehind(new Call("questions", 0, x -> {
            ask.accept(x);
            return 0;
        }), true);
    }

    private static void doneOnesThatChangeNothing() {
        DUE.sentence(31, "What the host does, by what");
        List<Call> done = new ArrayList<>();
        done.add(new Call("here(0, true)", 0, x -> x.here(0, true)));
        done.add(new Call("here(2, false)", 0, x -> x.here(2, false)));
        done.add(new Call("day(0)", 0, x -> x.day(0)));
        done.add(new Call("share(40)", 0, x -> x.share(40)));
        done.add(new Call("sheet(3, -1, 7)", 0, x -> x.sheet(3, -1, 7)));
        done.add(new Call("cell(1, 0, 700)", 0, x -> x.cell(1, 0, 700)));
        done.add(new Call("act(5, 3, 9)", 0, x -> x.act(5, 3, 9)));
        done.add(new Call("forge(0, 1, 5)", 0, x -> x.forge(0, 1, 5)));
        done.add(new Call("forge(1, 9, 0)", 0, x -> x.forge(1, 9, 0)));
        done.add(new Call("forge(2, 0, 1)", 0, x -> x.forge(2, 0, 1)));
        done.add(new Call("forge(3, 2, 0)", 0, x -> x.forge(3, 2, 0)));
        done.add(new Call("forge(4, 0, 5)", 0, x -> x.forge(4, 0, 5)));
        done.add(new Call("forge(5, 9, 0)", 0, x -> x.forge(5, 9, 0)));
        done.add(new Call("forge(6, 1, 0)", 0, x -> x.forge(6, 1, 0)));
        for (Call call : done) {
            KnowHouse x = some();
            call.made.applyAsInt(x);
            DUE.is("status() behind " + call.name, x.status(), 0);
            sameBehind(call, true);
        }
    }

    private static void statusStaysForQuestions() {
        DUE.sentence(32, "STATUS of the latest call that is no question");
        for (Call call : refusedOfSome()) {
            for (int part = 0; part < 5; part++) {
                KnowHouse x = some();
                call.made.applyAsInt(x);
                switch (part) {
                    case 0:
                        x.lines(0);
                        x.line(0, 0, 0);
                        x.mark(0, 0, 0, 0);
                        x.changeTold(0, 7);
                        break;
                    case 1:
                        x.lines(-1);
                        x.line(0, 0, -1);
                        x.mark(0, 0, 0, -1);
                        x.changeTold(99, 7);
                        break;
                    case 2:
                        x.points(0, 0, 0);
                        x.knows(0, 0);
                        x.able(0, 0);
                        x.lost(1);
                        x.lone(0);
                        x.cover();
                        break;
                    case 3:
                        x.plan(1, -1);
                        x.sum(0, -1);
                        x.count(6);
                        x.trace(0);
                        x.status();
                        break;
                    default:
                        x.lost(-1);
                        x.lone(-1);
                        x.plan(9, 9);
                        x.sum(-1, -1);
                        x.count(-1);
                        x.trace(-1);
                        break;
                }
                DUE.is("status() behind " + call.name + " and questions " + part, x.status(), call.status);
            }
        }
    }
}
