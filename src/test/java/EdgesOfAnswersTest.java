/** Promises 11 to 23: each sentence that names an edge of what relations have, moved, and what is told has its own test. */
public final class EdgesOfAnswersTest extends Checks {
    private static final String ALL_KINDS = "table a 2;table b 2;view s = select a where c0 > 0;view p = project a c1;"
            + "view j = join a b on c1 = c0;view u = union a b;view m = minus a b;view d = distinct m;"
            + "view g = group m by c0 sum c1;view r = ring a with b on c1 = c0 keep c0, c3;";
    private static final int RING = 9;
    /** Numbers that are no what of any call. */
    private static final int[] NO_WHATS = {-1, -2, 10, 11, 100, MOST_INT, LEAST_INT};

    private EdgesOfAnswersTest() {
    }

    public static void main(String[] args) {
        runByPromises(EdgesOfAnswersTest.class, 11, 23);
    }

    private static BagTree fullTable() {
        BagTree x = planned("table a 1;view p = project a c0 + 1, 5;");
        fill(x, 0, 0, 120);
        return x;
    }

    /** Tables of 1 to 4 columns with one tuple each, and a view of each. */
    private static BagTree oneTupleEach() {
        BagTree x = planned("table a 1;table b 2;table d 3;table e 4;"
                + "view va = distinct a;view vb = distinct b;view vd = distinct d;view ve = distinct e;");
        for (int t = 0; t < 4; t++) {
            x.change(t, 10, 11, 12, 13, 6);
        }
        x.commit();
        return x;
    }

    // ---- promise 11

    /** "How many TUPLES a RELATION has": none, 120 */
    static void promise11NoneAndAll() {
        BagTree x = planned("table a 1;view d = distinct a;");
        due("none", x.size(0), 0);
        due("none", x.size(1), 0);
        BagTree y = fullTable();
        due("120", y.size(0), 120);
        due("120", y.size(1), 120);
    }

    /** TUPLES are counted once each, whatever their counts. */
    static void promise11WhateverTheCounts() {
        BagTree x = planned("table a 1;table b 1;view m = minus a b;");
        change(x, 0, 1, 0, 9);
        change(x, 1, 2, 0, 9);
        change(x, 0, 3, 0, 1);
        change(x, 1, 3, 0, 1);
        x.commit();
        due("of a minus", x.size(2), 2);
    }

    /** "NONE: others" */
    static void promise11Others() {
        BagTree x = planned("table a 1;view d = distinct a;");
        due("behind all", x.size(2), NONE);
        for (int r : NO_RELATIONS) {
            due("size(" + r + ")", x.size(r), NONE);
        }
        BagTree y = planned(lines(8, 8));
        due("the 16th", y.size(15), 0);
        due("a 17th", y.size(16), NONE);
    }

    // ---- promise 12

    /** "Of the i-th TUPLE": the first, the last; "NoSuchElementException: .. none such": ahead of, behind them */
    static void promise12NoSuchTuple() {
        BagTree x = fullTable();
        due("the first", x.at(0, 0, 0), 0);
        due("the last", x.at(0, 119, 0), 119);
        due("the last of the view", x.at(1, 119, 0), 120);
        for (int i : new int[] {120, 121, 240, MOST_INT, -1, LEAST_INT}) {
            dueNoSuch("at(0, " + i + ", 0)", () -> x.at(0, i, 0));
            dueNoSuch("at(1, " + i + ", 4)", () -> x.at(1, i, 4));
        }
    }

    /** The same: of a relation without tuples, though it had some */
    static void promise12OfNone() {
        BagTree x = planned("table a 1;");
        dueNoSuch("at first", () -> x.at(0, 0, 0));
        change(x, 0, 1, 0, 1);
        x.commit();
        due("one", x.at(0, 0, 0), 1);
        dueNoSuch("a second", () -> x.at(0, 1, 0));
        x.undo();
        dueNoSuch("undone", () -> x.at(0, 0, 0));
        dueNoSuch("undone", () -> x.at(0, 0, 4));
    }

    /** "what 0 to 3: that COLUMN": one that the relation has not is none such (unsure) */
    static void promise12AColumnThatItHasNot() {
        BagTree x = oneTupleEach();
        for (int r = 0; r < 8; r++) {
            int relation = r;
            for (int what = 0; what <= 3; what++) {
                int column = what;
                if (what <= r % 4) {
                    due("at(" + r + ", 0, " + what + ")", x.at(r, 0, what), 10 + what);
                } else {
                    dueNoSuch("at(" + r + ", 0, " + what + ")", () -> x.at(relation, 0, column));
                }
            }
        }
    }

    /** "4: its count", above and below 0 */
    static void promise12ItsCount() {
        BagTree x = oneTupleEach();
        for (int r = 0; r < 8; r++) {
            due("at(" + r + ", 0, 4)", x.at(r, 0, 4), r < 4 ? 6 : 1);
        }
        BagTree y = planned("table a 1;table b 1;view m = minus a b;");
        change(y, 1, 1, 0, 9);
        y.commit();
        due("below 0", y.at(2, 0, 4), -9);
    }

    /** "NoSuchElementException: others": another what */
    static void promise12NoSuchWhat() {
        BagTree x = oneTupleEach();
        for (int what : new int[] {-1, 5, 6, MOST_INT, LEAST_INT}) {
            for (int r = 0; r < 8; r++) {
                int relation = r;
                dueNoSuch("at(" + r + ", 0, " + what + ")", () -> x.at(relation, 0, what));
            }
        }
    }

    /** The same: another relation */
    static void promise12NoSuchRelation() {
        BagTree x = oneTupleEach();
        dueNoSuch("behind all", () -> x.at(8, 0, 0));
        for (int r : NO_RELATIONS) {
            dueNoSuch("at(" + r + ", 0, 0)", () -> x.at(r, 0, 0));
            dueNoSuch("at(" + r + ", 0, 4)", () -> x.at(r, 0, 4));
        }
    }

    /** "TUPLES are told in order: by the first COLUMN, then the second, on and on, the less ahead." */
    static void promise12InOrder() {
        BagTree x = planned("table a 4;view p = project a c3,c2,c1,c0;");
        int[][] tuples = {{0, 0, 0, 1}, {0, 0, 0, -1}, {0, 0, 1, -2}, {0, -1, 5, 5}, {-1, 9, 9, 9},
            {MOST_INT, 0, 0, 0}, {LEAST_INT, MOST_INT, 0, 0}, {LEAST_INT, LEAST_INT, 0, 0}};
        for (int[] t : tuples) {
            x.change(0, t[0], t[1], t[2], t[3], 1);
        }
        x.commit();
        int[] order = {7, 6, 4, 3, 1, 0, 2, 5};
        for (int i = 0; i < order.length; i++) {
            for (int c = 0; c < 4; c++) {
                due("at(0, " + i + ", " + c + ")", x.at(0, i, c), tuples[order[i]][c]);
            }
        }
        int[] other = {2, 1, 7, 5, 6, 0, 3, 4};
        for (int i = 0; i < other.length; i++) {
            due("at(1, " + i + ", 3)", x.at(1, i, 3), tuples[other[i]][0]);
        }
    }

    // ---- promise 13

    /** "(values beyond its COLUMNS whatever ..)" */
    static void promise13ValuesBeyondTheColumns() {
        BagTree x = oneTupleEach();
        for (int t = 0; t < 4; t++) {
            due("all", x.count(t, 10, 11, 12, 13), 6);
            due("another d", x.count(t, 10, 11, 12, 0), t >= 3 ? 0 : 6);
            due("another c", x.count(t, 10, 11, MOST_INT, 13), t >= 2 ? 0 : 6);
            due("another b", x.count(t, 10, LEAST_INT, 12, 13), t >= 1 ? 0 : 6);
            due("another a", x.count(t, 0, 11, 12, 13), 0);
        }
    }

    /** "(.. 0: it has none such)", of an empty one, too */
    static void promise13NoneSuch() {
        BagTree x = planned("table a 1;table b 1;view m = minus a b;");
        due("of an empty one", x.count(0, 0, 0, 0, 0), 0);
        change(x, 0, 0, 0, 2);
        change(x, 1, 0, 0, 2);
        change(x, 1, 5, 0, 9);
        x.commit();
        due("of a table", x.count(0, 0, 0, 0, 0), 2);
        due("of counts alike", x.count(2, 0, 0, 0, 0), 0);
        due("below 0", x.count(2, 5, 0, 0, 0), -9);
        due("of the least int", x.count(2, LEAST_INT, 0, 0, 0), 0);
        due("of the greatest int", x.count(2, MOST_INT, 0, 0, 0), 0);
    }

    /** Each tuple that a relation tells is found by its values, be it beside wider ones or not. */
    static void promise13EachTupleIsFound() {
        BagTree x = planned("table a 1;table e 4;view p = project e c3,c2,c1,c0;view g = group e by c1 count;"
                + "view j = join a e on c0=c0,c0=c1;view k = join e e on c0=c0,c1=c1,c2=c2,c3=c3;view q = project a c0+1;"
                + "view l = join a a on c0=c0;view h = group e by c0,c1,c2 sum c3;view d = distinct a;"
                + "view r = ring a with a on c0=c0 keep c0;view o = project e c0,c1;view f = group o by c0 most c1;");
        change(x, 0, 5, 0, 3);
        x.change(1, 5, 5, 6, 7, 4);
        x.change(1, 5, 6, 7, 8, 2);
        x.commit();
        for (int r = 0; r < 13; r++) {
            int columns = x.of(r, 1);
            due("it has some", x.size(r) > 0 ? 1 : 0, 1);
            for (int i = x.size(r) - 1; i >= 0; i--) {
                int[] t = {99, 99, 99, 99};
                for (int c = 0; c < columns; c++) {
                    t[c] = x.at(r, i, c);
                }
                due("count(" + r + ", " + t[0] + ", ..)", x.count(r, t[0], t[1], t[2], t[3]), x.at(r, i, 4));
            }
        }
    }

    /** "NoSuchElementException: others" */
    static void promise13Others() {
        BagTree x = oneTupleEach();
        dueNoSuch("behind all", () -> x.count(8, 10, 11, 12, 13));
        for (int r : NO_RELATIONS) {
            dueNoSuch("count(" + r + ", ..)", () -> x.count(r, 10, 11, 12, 13));
        }
    }

    // ---- promise 14

    /** "All counts together": of none 0, those below 0 too */
    static void promise14Together() {
        BagTree x = planned("table a 1;table b 1;view m = minus a b;");
        due("of none", x.total(2), 0);
        change(x, 0, 1, 0, 9);
        change(x, 0, 2, 0, 1);
        change(x, 1, 3, 0, 9);
        x.commit();
        due("of a table", x.total(0), 10);
        due("of both signs", x.total(2), 1);
        change(x, 1, 3, 0, 1);
        x.commit();
        due("0 though there are some", x.total(2), 0);
        change(x, 1, 3, 0, 1);
        x.commit();
        due("below 0", x.total(2), -1);
    }

    /** The same: it wraps as all counts do */
    static void promise14Wraps() {
        BagTree x = planned("table t 1;view p = join t t on c0=c0;view q = join p p on c0=c0;view h = join q p on c0=c0;"
                + "view k = join h t on c0=c0;view u = union k k;view v = union u u;");
        for (int k = 1; k <= 3; k++) {
            change(x, 0, k, 0, 8);
            change(x, 0, k, 0, 8);
        }
        x.commit();
        due("2 to the 30th", x.at(6, 0, 4), 1 << 30);
        due("three of them", x.total(6), 3 * (1 << 30));
        due("it is below 0", x.total(6) < 0 ? 1 : 0, 1);
    }

    /** "NoSuchElementException: others" */
    static void promise14Others() {
        BagTree x = oneTupleEach();
        due("the last", x.total(7), 1);
        dueNoSuch("behind all", () -> x.total(8));
        for (int r : NO_RELATIONS) {
            dueNoSuch("total(" + r + ")", () -> x.total(r));
        }
    }

    // ---- promise 15

    /** "How many TUPLES MOVED": nothing at first, nothing by an empty batch */
    static void promise15Nothing() {
        BagTree x = planned("table a 1;view d = distinct a;");
        due("at first", x.moved(0), 0);
        due("at first", x.moved(1), 0);
        change(x, 0, 1, 0, 2);
        due("a change that is not done", x.moved(0), 0);
        x.commit();
        due("done", x.moved(0), 1);
        due("done", x.moved(1), 1);
        x.commit();
        due("an empty one", x.moved(0), 0);
        due("an empty one", x.moved(1), 0);
    }

    /** "TUPLES whose counts .. made others": a view's count may stay though its R moved */
    static void promise15CountsMadeOthers() {
        BagTree x = planned("table a 1;view d = distinct a;view n = project a 0;");
        change(x, 0, 1, 0, 2);
        change(x, 0, 2, 0, 1);
        x.commit();
        change(x, 0, 1, 0, -1);
        change(x, 0, 2, 0, 1);
        due("commit", x.commit(), 0);
        due("the table", x.moved(0), 2);
        due("distinct", x.moved(1), 0);
        due("like many together", x.moved(2), 0);
    }

    /** "the latest BATCH that was DONE, or UNDONE": not one that was refused, cancelled or only asked for */
    static void promise15NotOfARefusedBatch() {
        BagTree x = planned("table a 1;view d = distinct a;");
        change(x, 0, 1, 0, 1);
        change(x, 0, 2, 0, 1);
        x.commit();
        change(x, 0, 3, 0, -1);
        x.commit();
        due("refused", x.moved(1), 2);
        change(x, 0, 3, 0, 1);
        x.would(1);
        x.cancel();
        x.differs(1);
        due("cancelled", x.moved(1), 2);
        x.undo();
        dueText("undone", moves(x, 1), "1:-1 2:-1");
        x.undo();
        dueText("nothing to undo", moves(x, 1), "1:-1 2:-1");
    }

    /** 40 of a table are the most; of a view all that it had and all that it has. */
    static void promise15Of240() {
        BagTree x = planned("table a 1;table b 2;view n = project a c0, 0;view j = join n b on c1 = c0;");
        fill(x, 0, 0, 120);
        change(x, 1, 0, 5, 1);
        due("120 move", x.commit(), 120);
        change(x, 1, 0, 5, -1);
        change(x, 1, 0, 3, 1);
        due("240 move", x.commit(), 240);
        due("moved", x.moved(3), 240);
        due("the first", x.movedAt(3, 0, 4), 1);
        due("the last", x.movedAt(3, 239, 4), -1);
        dueNoSuch("a 241st", () -> x.movedAt(3, 240, 4));
        due("undo", x.undo(), 4);
        due("moved back", x.moved(3), 240);
        due("the last", x.movedAt(3, 239, 4), 1);
    }

    /** "NONE: others" */
    static void promise15Others() {
        BagTree x = oneTupleEach();
        due("the last", x.moved(7), 1);
        due("behind all", x.moved(8), NONE);
        for (int r : NO_RELATIONS) {
            due("moved(" + r + ")", x.moved(r), NONE);
        }
    }

    // ---- promise 16

    /** "Of the i-th that MOVED"; "NoSuchElementException: .. none such" */
    static void promise16NoSuchTuple() {
        BagTree x = planned("table a 1;view d = distinct a;");
        dueNoSuch("at first", () -> x.movedAt(0, 0, 0));
        for (int k = 0; k < 40; k++) {
            change(x, 0, k, 0, 1);
        }
        x.commit();
        for (int r = 0; r < 2; r++) {
            int relation = r;
            due("the first", x.movedAt(r, 0, 0), 0);
            due("the last", x.movedAt(r, 39, 0), 39);
            for (int i : new int[] {40, 41, MOST_INT, -1, LEAST_INT}) {
                dueNoSuch("movedAt(" + r + ", " + i + ", 0)", () -> x.movedAt(relation, i, 0));
            }
        }
        x.commit();
        dueNoSuch("of an empty batch", () -> x.movedAt(0, 0, 0));
        dueNoSuch("of an empty batch", () -> x.movedAt(1, 0, 4));
        due("though it is there", x.at(1, 0, 0), 0);
    }

    /** "what 0 to 3: that COLUMN": one that the relation has not is none such (unsure) */
    static void promise16AColumnThatItHasNot() {
        BagTree x = oneTupleEach();
        for (int r = 0; r < 8; r++) {
            int relation = r;
            for (int what = 0; what <= 3; what++) {
                int column = what;
                if (what <= r % 4) {
                    due("movedAt(" + r + ", 0, " + what + ")", x.movedAt(r, 0, what), 10 + what);
                } else {
                    dueNoSuch("movedAt(" + r + ", 0, " + what + ")", () -> x.movedAt(relation, 0, column));
                }
            }
        }
    }

    /** "4: by how much": more, fewer, gone */
    static void promise16ByHowMuch() {
        BagTree x = planned("table a 1;");
        change(x, 0, 1, 0, 5);
        change(x, 0, 2, 0, 5);
        change(x, 0, 3, 0, 5);
        x.commit();
        dueText("new", moves(x, 0), "1:5 2:5 3:5");
        change(x, 0, 1, 0, 9);
        change(x, 0, 2, 0, -4);
        change(x, 0, 3, 0, -5);
        x.commit();
        dueText("more, fewer, gone", moves(x, 0), "1:9 2:-4 3:-5");
        x.undo();
        dueText("undone", moves(x, 0), "1:-9 2:4 3:5");
    }

    /** By how much wraps, as all counts do. */
    static void promise16ByHowMuchWraps() {
        BagTree x = planned("table t 1;table w 1;view p = join t t on c0=c0;view q = join p p on c0=c0;"
                + "view h = join q p on c0=c0;view k = join h t on c0=c0;view m = join k w on c0=c0;");
        change(x, 0, 1, 0, 8);
        change(x, 0, 1, 0, 8);
        change(x, 1, 1, 0, 4);
        x.commit();
        due("2 to the 30th", x.at(6, 0, 4), 1 << 30);
        change(x, 1, 1, 0, 4);
        due("commit", x.commit(), 1);
        due("2 to the 31st", x.at(6, 0, 4), LEAST_INT);
        due("by how much", x.movedAt(6, 0, 4), 1 << 30);
        x.undo();
        due("and back", x.movedAt(6, 0, 4), -(1 << 30));
    }

    /** "NoSuchElementException: others": another what, another relation */
    static void promise16Others() {
        BagTree x = oneTupleEach();
        for (int what : new int[] {-1, 5, 6, MOST_INT, LEAST_INT}) {
            dueNoSuch("movedAt(3, 0, " + what + ")", () -> x.movedAt(3, 0, what));
            dueNoSuch("movedAt(4, 0, " + what + ")", () -> x.movedAt(4, 0, what));
        }
        dueNoSuch("behind all", () -> x.movedAt(8, 0, 0));
        for (int r : NO_RELATIONS) {
            dueNoSuch("movedAt(" + r + ", 0, 0)", () -> x.movedAt(r, 0, 0));
        }
    }

    // ---- promise 17

    /** "how many TUPLES MOVED of its R (of both, if there are two; twice, if both are one)" */
    static void promise17OfOneOfBothAndTwice() {
        BagTree x = planned("table a 1;table b 1;view d = distinct a;view u = union a b;view m = minus a a;"
                + "view j = join a b on c0 = c0;view k = join b b on c0 = c0;view r = ring a with b on c0 = c0 keep c0;"
                + "view s = ring a with a on c0 = c0 keep c0;view n = group u by c0 count;");
        for (int r = 2; r < 10; r++) {
            due("at first", x.came(r), 0);
        }
        change(x, 0, 1, 0, 1);
        change(x, 0, 2, 0, 1);
        change(x, 0, 3, 0, 1);
        change(x, 1, 3, 0, 1);
        change(x, 1, 4, 0, 1);
        x.commit();
        int[] want = {3, 5, 6, 5, 4, 5, 6, 4};
        for (int r = 2; r < 10; r++) {
            due("came(" + r + ")", x.came(r), want[r - 2]);
        }
        x.commit();
        due("by an empty batch", x.came(3), 0);
        x.undo();
        due("by its undoing", x.came(3), 0);
        x.undo();
        due("undone", x.came(3), 5);
    }

    /** "CAME to a VIEW by that BATCH": a refused batch is not that one. */
    static void promise17NotOfARefusedBatch() {
        BagTree x = planned("table a 1;view d = distinct a;");
        change(x, 0, 1, 0, 1);
        x.commit();
        change(x, 0, 2, 0, -1);
        change(x, 0, 3, 0, 1);
        x.commit();
        due("came", x.came(1), 1);
    }

    /** "NONE: .. a TABLE" */
    static void promise17ATable() {
        BagTree x = oneTupleEach();
        for (int t = 0; t < 4; t++) {
            due("a table", x.came(t), NONE);
            due("a view", x.came(4 + t), 1);
        }
    }

    /** "NONE: others" */
    static void promise17Others() {
        BagTree x = oneTupleEach();
        due("behind all", x.came(8), NONE);
        for (int r : NO_RELATIONS) {
            due("came(" + r + ")", x.came(r), NONE);
        }
    }

    // ---- promise 18

    private static BagTree walkOfForty() {
        BagTree x = planned("table a 1;table b 2;view r = ring a with b on c0 = c0 keep c2;view d = distinct r;");
        for (int k = 0; k < 40; k++) {
            change(x, 1, k, k + 1, 1);
        }
        x.commit();
        change(x, 0, 0, 0, 1);
        x.commit();
        return x;
    }

    /** "The ROUND in which a TUPLE of a ring came": 0 to 40 */
    static void promise18FromZeroToForty() {
        BagTree x = walkOfForty();
        for (int k = 0; k <= 40; k++) {
            due("round of " + k, x.round(2, k, 0, 0, 0), k);
        }
    }

    /** It is the first ROUND in which it comes, though others would bring it again. */
    static void promise18TheFirstRound() {
        BagTree x = walkOfForty();
        change(x, 1, 5, 5, 1);
        change(x, 1, 9, 5, 1);
        change(x, 1, 0, 20, 1);
        x.commit();
        due("5", x.round(2, 5, 0, 0, 0), 5);
        due("20", x.round(2, 20, 0, 0, 0), 1);
        due("40", x.round(2, 40, 0, 0, 0), 21);
        change(x, 0, 20, 0, 1);
        x.commit();
        due("20 of round 0", x.round(2, 20, 0, 0, 0), 0);
        x.undo();
        due("20 undone", x.round(2, 20, 0, 0, 0), 1);
    }

    /** "NONE: .. it did not" come: never, not any more, refused */
    static void promise18ItDidNot() {
        BagTree x = walkOfForty();
        due("41", x.round(2, 41, 0, 0, 0), NONE);
        due("-1", x.round(2, -1, 0, 0, 0), NONE);
        due("least", x.round(2, LEAST_INT, 0, 0, 0), NONE);
        change(x, 1, 40, 41, 1);
        due("refused", x.commit(), -4);
        due("41", x.round(2, 41, 0, 0, 0), NONE);
        change(x, 0, 0, 0, -1);
        x.commit();
        due("gone", x.round(2, 0, 0, 0, 0), NONE);
        BagTree y = planned("table a 1;view r = ring a with a on c0 = c0 keep c0;");
        due("of none", y.round(1, 0, 0, 0, 0), NONE);
    }

    /** Values beyond its columns are whatever, as everywhere; those within are not. */
    static void promise18ValuesBeyondTheColumns() {
        BagTree x = planned("table a 1;table b 2;table d 3;view r = ring a with d on c0 = c0 keep c0;"
                + "view s = ring b with b on c0 = c0 keep c0, c1;view t = ring d with a on c0 = c0 keep c0, c1, c2;");
        for (int t = 0; t < 3; t++) {
            x.change(t, 10, 11, 12, 13, 1);
        }
        x.commit();
        for (int t = 0; t < 3; t++) {
            due("all", x.round(3 + t, 10, 11, 12, 13), 0);
            due("another d", x.round(3 + t, 10, 11, 12, 0), 0);
            due("another c", x.round(3 + t, 10, 11, 0, 13), t >= 2 ? NONE : 0);
            due("another b", x.round(3 + t, 10, 0, 12, 13), t >= 1 ? NONE : 0);
            due("another a", x.round(3 + t, 0, 11, 12, 13), NONE);
        }
    }

    /** "NONE: .. no ring": a table and a view of every other kind that have the tuple */
    static void promise18NoRing() {
        BagTree x = planned(ALL_KINDS);
        change(x, 0, 1, 1, 1);
        change(x, 1, 1, 1, 2);
        x.commit();
        due("the ring", x.round(RING, 1, 1, 1, 1), 0);
        for (int r = 0; r < RING; r++) {
            due("round(" + r + ", ..)", x.round(r, 1, 1, 1, 1), NONE);
        }
    }

    /** "NONE: others" */
    static void promise18Others() {
        BagTree x = walkOfForty();
        due("behind all", x.round(4, 0, 0, 0, 0), NONE);
        for (int r : NO_RELATIONS) {
            due("round(" + r + ", ..)", x.round(r, 0, 0, 0, 0), NONE);
        }
    }

    // ---- promise 19

    /** "How many ROUNDS behind ROUND 0 of a ring brought new ones": 0, 1, 40 */
    static void promise19ZeroOneForty() {
        BagTree x = planned("table a 1;table b 2;view r = ring a with b on c0 = c0 keep c2;");
        due("of nothing", x.rounds(2), 0);
        change(x, 0, 1, 0, 1);
        x.commit();
        due("round 0 alone", x.rounds(2), 0);
        change(x, 1, 1, 1, 1);
        x.commit();
        due("a round of old ones", x.rounds(2), 0);
        change(x, 1, 1, 2, 1);
        x.commit();
        due("one", x.rounds(2), 1);
        x.undo();
        due("undone", x.rounds(2), 0);
        BagTree y = walkOfForty();
        due("40", y.rounds(2), 40);
        change(y, 1, 40, 41, 1);
        y.commit();
        due("refused", y.rounds(2), 40);
    }

    /** The same: where the tuples of the last round are ahead of all others in order */
    static void promise19TheLeastLast() {
        BagTree x = planned("table a 1;table b 2;view r = ring a with b on c0 = c0 keep c2;");
        change(x, 0, 9, 0, 1);
        change(x, 1, 9, 8, 1);
        change(x, 1, 8, 7, 1);
        x.commit();
        dueText("ring", bag(x, 2), "7:1 8:1 9:1");
        due("rounds", x.rounds(2), 2);
    }

    /** "NONE: .. no ring" */
    static void promise19NoRing() {
        BagTree x = planned(ALL_KINDS);
        for (int r = 0; r < RING; r++) {
            due("rounds(" + r + ")", x.rounds(r), NONE);
        }
        due("the ring", x.rounds(RING), 0);
    }

    /** "NONE: others", also of a number that was a ring in the plan ahead */
    static void promise19Others() {
        BagTree x = planned(ALL_KINDS);
        due("behind all", x.rounds(10), NONE);
        for (int r : NO_RELATIONS) {
            due("rounds(" + r + ")", x.rounds(r), NONE);
        }
        plan(x, lines(1, 2));
        due("in the plan ahead", x.rounds(RING), NONE);
        due("in the plan ahead", x.round(RING, 0, 0, 0, 0), NONE);
    }

    // ---- promise 20

    /** "(0, if all is right)": empty, full, done, refused, undone, with changes that are not done */
    static void promise20AllIsRight() {
        BagTree x = planned(ALL_KINDS);
        dueRight(x, 10);
        change(x, 0, 1, 2, 3);
        change(x, 0, 2, 1, 1);
        change(x, 1, 2, 3, 1);
        change(x, 1, 2, 1, 1);
        x.commit();
        dueRight(x, 10);
        change(x, 0, 1, 2, -4);
        x.commit();
        dueRight(x, 10);
        change(x, 0, 1, 2, -3);
        dueRight(x, 10);
        x.commit();
        dueRight(x, 10);
        x.undo();
        dueRight(x, 10);
        BagTree full = fullTable();
        dueRight(full, 2);
        BagTree walk = walkOfForty();
        dueRight(walk, 4);
    }

    private static void dueRight(BagTree x, int relations) {
        for (int r = 0; r < relations; r++) {
            due("differs(" + r + ")", x.differs(r), 0);
        }
    }

    /** The same: behind any other call that asks */
    static void promise20BehindOtherQuestions() {
        BagTree x = walkOfForty();
        for (int r = 0; r < 4; r++) {
            x.column(r, 0, 2);
            due("behind column", x.differs(r), 0);
            x.would(r);
            due("behind would", x.differs(r), 0);
            x.count(r, 1, 1, 1, 1);
            x.round(2, 1, 1, 1, 1);
            due("behind count and round", x.differs(r), 0);
        }
        change(x, 0, 5, 0, -1);
        x.would(2);
        due("behind a would that is refused", x.differs(2), 0);
    }

    /** Asking changes nothing: not the batch, what moved, the rounds or what can be undone. */
    static void promise20ChangesNothing() {
        BagTree x = walkOfForty();
        change(x, 0, 9, 0, 1);
        dueRight(x, 4);
        due("changes", x.told(5), 1);
        due("moved", x.moved(2), 41);
        due("rounds", x.rounds(2), 40);
        due("can be undone", x.told(4), 2);
        due("done", x.told(2), 2);
        due("commit", x.commit(), 0);
        due("size", x.size(0), 2);
    }

    /** "NONE: others" */
    static void promise20Others() {
        BagTree x = planned("table a 1;view d = distinct a;");
        due("behind all", x.differs(2), NONE);
        for (int r : NO_RELATIONS) {
            due("differs(" + r + ")", x.differs(r), NONE);
        }
    }

    // ---- promise 21

    /** "0 TABLE, 1 select, 2 project, 3 join, 4 union, 5 minus, 6 distinct, 7 group, 8 ring" */
    static void promise21Kinds() {
        BagTree x = planned(ALL_KINDS);
        for (int r = 0; r < 10; r++) {
            due("of(" + r + ", 0)", x.of(r, 0), r == 0 ? 0 : r - 1);
        }
    }

    /** "1: COLUMNS": 1 to 4 of every kind that can have them */
    static void promise21Columns() {
        BagTree x = planned("table a 1;table e 4;view s = select e where c0 = 1;view p = project a c0,1,2,3;view q = project e 7;"
                + "view j = join a e on c0 = c2;view k = join e e on c0=c0,c1=c1,c2=c2,c3=c3;view l = join a a on c0=c0;"
                + "view u = union e p;view d = distinct a;view g = group e by c0 count;view h = group e by c0,c1,c2 most c3;"
                + "view r = ring a with a on c0 = c0 keep c1;");
        int[] want = {1, 4, 4, 4, 1, 4, 4, 1, 4, 1, 2, 4, 1};
        for (int r = 0; r < want.length; r++) {
            due("of(" + r + ", 1)", x.of(r, 1), want[r]);
        }
    }

    /** "2, 3: its R, its second R (NONE: none)": a table has none, a view of one R no second */
    static void promise21NoneOfR() {
        BagTree x = planned(ALL_KINDS);
        int[][] want = {{NONE, NONE}, {NONE, NONE}, {0, NONE}, {0, NONE}, {0, 1}, {0, 1}, {0, 1}, {6, NONE}, {6, NONE}, {0, 1}};
        for (int r = 0; r < 10; r++) {
            due("of(" + r + ", 2)", x.of(r, 2), want[r][0]);
            due("of(" + r + ", 3)", x.of(r, 3), want[r][1]);
        }
        BagTree y = planned("table a 1;view u = union a a;view j = join u a on c0 = c0;view r = ring a with j on c0 = c0 keep c0;");
        due("both one", y.of(1, 2) * 10 + y.of(1, 3), 0);
        due("the later first", y.of(2, 2) * 10 + y.of(2, 3), 10);
        due("of a ring", y.of(3, 2) * 10 + y.of(3, 3), 2);
    }

    private static String chain() {
        StringBuilder text = new StringBuilder("table a 1;");
        for (int k = 1; k < 16; k++) {
            text.append("view ").append((char) ('a' + k)).append("=distinct ").append((char) ('a' + k - 1)).append(';');
        }
        return text.toString();
    }

    /** "4: RELATIONS on which it hangs, at whatever remove, 5: that hang on it, as bits": all sixteen in a chain */
    static void promise21AtWhateverRemove() {
        BagTree x = planned(chain());
        for (int r = 0; r < 16; r++) {
            due("of(" + r + ", 4)", x.of(r, 4), (1 << r) - 1);
            due("of(" + r + ", 5)", x.of(r, 5), 0xffff & -(2 << r));
        }
    }

    /** The same: none of those that are beside it */
    static void promise21NoneBeside() {
        BagTree x = planned("table a 1;table b 1;view u = distinct a;view v = distinct b;view w = minus u u;");
        int[] on = {0, 0, 1, 2, 5};
        int[] by = {4 + 16, 8, 16, 0, 0};
        for (int r = 0; r < 5; r++) {
            due("of(" + r + ", 4)", x.of(r, 4), on[r]);
            due("of(" + r + ", 5)", x.of(r, 5), by[r]);
        }
    }

    /** "6: how far it is from TABLES (0: TABLE; 1 more than the farther R)": up to 15 */
    static void promise21HowFar() {
        BagTree x = planned(chain());
        for (int r = 0; r < 16; r++) {
            due("of(" + r + ", 6)", x.of(r, 6), r);
        }
        BagTree y = planned("table a 1;view u = distinct a;view v = distinct u;view w = union a v;view z = union v a;view q = union u u;");
        int[] want = {0, 1, 2, 3, 3, 2};
        for (int r = 0; r < 6; r++) {
            due("of(" + r + ", 6)", y.of(r, 6), want[r]);
        }
    }

    /** "7, 8: letters of its NAME, the first, the last (1 to 26)": of one letter, of eight */
    static void promise21Letters() {
        BagTree x = planned("table a 1;table z 1;table az 1;table za 1;table abcdefgh 1;table zyxwvuts 1;view zzzzzzzz = distinct a;view aaaaaaaa = distinct a;");
        int[][] want = {{1, 1}, {26, 26}, {1, 26}, {26, 1}, {1, 8}, {26, 19}, {26, 26}, {1, 1}};
        for (int r = 0; r < want.length; r++) {
            due("of(" + r + ", 7)", x.of(r, 7), want[r][0]);
            due("of(" + r + ", 8)", x.of(r, 8), want[r][1]);
        }
    }

    /** "NONE: others": another what */
    static void promise21NoSuchWhat() {
        BagTree x = planned(ALL_KINDS);
        for (int r = 0; r < 10; r++) {
            due("of(" + r + ", 9)", x.of(r, 9), NONE);
            for (int what : NO_WHATS) {
                due("of(" + r + ", " + what + ")", x.of(r, what), NONE);
            }
        }
    }

    /** The same: another relation, whatever what */
    static void promise21Others() {
        BagTree x = planned("table a 1;view d = distinct a;");
        for (int what = 0; what <= 8; what++) {
            due("behind all", x.of(2, what), NONE);
            for (int r : NO_RELATIONS) {
                due("of(" + r + ", " + what + ")", x.of(r, what), NONE);
            }
        }
    }

    // ---- promise 22

    /** "0: the least, 1: the greatest value": of one tuple, of the least and greatest ints, whatever the counts */
    static void promise22LeastAndGreatest() {
        BagTree x = planned("table a 2;table b 2;view m = minus a b;");
        change(x, 0, 5, -5, 1);
        x.commit();
        for (int what = 0; what < 2; what++) {
            due("of one", x.column(0, 0, what), 5);
            due("of one", x.column(0, 1, what), -5);
        }
        change(x, 0, 6, LEAST_INT, 1);
        change(x, 1, -6, MOST_INT, 9);
        x.commit();
        due("least", x.column(2, 0, 0), -6);
        due("greatest", x.column(2, 0, 1), 6);
        due("least", x.column(2, 1, 0), LEAST_INT);
        due("greatest", x.column(2, 1, 1), MOST_INT);
    }

    /** "2: how many unlike ones": none, one, 120 */
    static void promise22Unlike() {
        BagTree x = planned("table a 2;");
        due("none", x.column(0, 0, 2), 0);
        due("none", x.column(0, 1, 2), 0);
        change(x, 0, 7, 1, 9);
        change(x, 0, 7, 2, 1);
        x.commit();
        due("one", x.column(0, 0, 2), 1);
        due("two", x.column(0, 1, 2), 2);
        BagTree full = fullTable();
        due("120", full.column(1, 0, 2), 120);
        due("one of 120", full.column(1, 1, 2), 1);
        due("the last", full.column(1, 0, 1), 120);
    }

    /** "NoSuchElementException: .. (0, 1) it has no TUPLES" */
    static void promise22NoTuples() {
        BagTree x = planned(ALL_KINDS);
        for (int r = 0; r < 10; r++) {
            int relation = r;
            dueNoSuch("column(" + r + ", 0, 0)", () -> x.column(relation, 0, 0));
            dueNoSuch("column(" + r + ", 0, 1)", () -> x.column(relation, 0, 1));
            due("column(" + r + ", 0, 2)", x.column(r, 0, 2), 0);
        }
        change(x, 0, 1, 2, 1);
        x.commit();
        due("one", x.column(0, 1, 0), 2);
        x.undo();
        dueNoSuch("undone", () -> x.column(0, 1, 0));
    }

    /** "NoSuchElementException: others": a COLUMN that the RELATION has not */
    static void promise22AColumnThatItHasNot() {
        BagTree x = oneTupleEach();
        for (int r = 0; r < 8; r++) {
            int relation = r;
            for (int c = 0; c < 4; c++) {
                int column = c;
                for (int w = 0; w <= 2; w++) {
                    int what = w;
                    if (c <= r % 4) {
                        due("column(" + r + ", " + c + ", " + w + ")", x.column(r, c, w), w == 2 ? 1 : 10 + c);
                    } else {
                        dueNoSuch("column(" + r + ", " + c + ", " + w + ")", () -> x.column(relation, column, what));
                    }
                }
            }
            for (int column : new int[] {4, 5, MOST_INT, -1, LEAST_INT}) {
                dueNoSuch("column(" + r + ", " + column + ", 2)", () -> x.column(relation, column, 2));
            }
        }
    }

    /** The same: another what, another relation */
    static void promise22Others() {
        BagTree x = oneTupleEach();
        for (int what : new int[] {-1, 3, 4, MOST_INT, LEAST_INT}) {
            dueNoSuch("column(3, 0, " + what + ")", () -> x.column(3, 0, what));
        }
        dueNoSuch("behind all", () -> x.column(8, 0, 2));
        for (int r : NO_RELATIONS) {
            for (int w = 0; w <= 2; w++) {
                int what = w;
                dueNoSuch("column(" + r + ", 0, " + w + ")", () -> x.column(r, 0, what));
            }
        }
    }

    // ---- promise 23

    /** "0: TABLES, 1: VIEWS": none, sixteen of one, fifteen of the other */
    static void promise23TablesAndViews() {
        BagTree x = new BagTree();
        due("no tables", x.told(0), 0);
        due("no views", x.told(1), 0);
        plan(x, lines(16, 0));
        due("16 tables", x.told(0), 16);
        due("no views", x.told(1), 0);
        plan(x, lines(1, 15));
        due("one table", x.told(0), 1);
        due("15 views", x.told(1), 15);
    }

    /** "2: BATCHES that were DONE, 3: REFUSED, since plan()" */
    static void promise23DoneAndRefused() {
        BagTree x = planned("table a 1;");
        for (int k = 1; k <= 12; k++) {
            change(x, 0, 1, 0, 1);
            x.commit();
            due("done", x.told(2), k);
            change(x, 0, 2, 0, -1);
            x.would(0);
            x.commit();
            due("refused", x.told(3), k);
        }
        x.undo();
        due("done stays behind an undo", x.told(2), 12);
        due("refused too", x.told(3), 12);
        plan(x, "table");
        due("done stays behind a fault", x.told(2), 12);
        due("refused too", x.told(3), 12);
        plan(x, "table a 1;");
        due("done since plan()", x.told(2), 0);
        due("refused since plan()", x.told(3), 0);
    }

    /** "4: that can be UNDONE": 0 to 8 */
    static void promise23CanBeUndone() {
        BagTree x = planned("table a 1;");
        for (int k = 0; k <= 10; k++) {
            due("can be", x.told(4), Math.min(k, 8));
            x.commit();
        }
        for (int k = 7; k >= 0; k--) {
            x.undo();
            due("can be", x.told(4), k);
        }
        x.undo();
        due("none", x.told(4), 0);
    }

    /** "5: changes in the BATCH": 0 to 40 */
    static void promise23ChangesInTheBatch() {
        BagTree x = planned("table a 1;");
        for (int k = 0; k < 40; k++) {
            due("changes", x.told(5), k);
            change(x, 0, k, 0, 1);
        }
        due("40", x.told(5), 40);
        x.change(0, 40, 0, 0, 0, 1);
        due("40 still", x.told(5), 40);
        x.change(0, 7, 0, 0, 0, -1);
        due("39", x.told(5), 39);
        x.commit();
        due("none", x.told(5), 0);
    }

    /** "6: TUPLES of all VIEWS, 7: that MOVED in all VIEWS, 8: that CAME to all VIEWS": those of tables are not among them */
    static void promise23OfAllViews() {
        BagTree x = planned("table a 1;table b 1;");
        change(x, 0, 1, 0, 1);
        x.commit();
        for (int what = 6; what <= 8; what++) {
            due("without views", x.told(what), 0);
        }
        BagTree y = planned("table a 1;view d = distinct a;view u = union a d;view z = minus a a;");
        change(y, 0, 1, 0, 1);
        change(y, 0, 2, 0, 1);
        y.commit();
        due("tuples", y.told(6), 4);
        due("moved", y.told(7), 4);
        due("came", y.told(8), 2 + 4 + 4);
        change(y, 0, 1, 0, 1);
        y.commit();
        due("tuples", y.told(6), 4);
        due("moved", y.told(7), 1);
        due("came", y.told(8), 1 + 1 + 2);
    }

    /** "by the latest BATCH that was DONE or UNDONE" */
    static void promise23ByTheLatestBatch() {
        BagTree x = planned("table a 1;view d = distinct a;");
        change(x, 0, 1, 0, 1);
        change(x, 0, 2, 0, 1);
        x.commit();
        change(x, 0, 3, 0, 1);
        x.commit();
        change(x, 0, 9, 0, -1);
        x.commit();
        due("moved, refused", x.told(7), 1);
        due("came, refused", x.told(8), 1);
        x.undo();
        x.undo();
        due("moved, undone", x.told(7), 2);
        due("came, undone", x.told(8), 2);
        due("tuples", x.told(6), 0);
        x.commit();
        due("moved, empty", x.told(7), 0);
        due("came, empty", x.told(8), 0);
    }

    /** Of 15 views of 120 tuples each. */
    static void promise23OfFifteenViews() {
        BagTree x = planned(lines(1, 15));
        fill(x, 0, 0, 120);
        due("tuples", x.told(6), 15 * 120);
        due("moved", x.told(7), 15 * 40);
        due("came", x.told(8), 15 * 40);
    }

    /** "9: bytes on the TAPE": 0 to 936 */
    static void promise23BytesOnTheTape() {
        BagTree x = new BagTree();
        due("none", x.told(9), 0);
        for (int n = 1; n <= 39; n++) {
            x.feed(0, 0, 0);
        }
        due("936", x.told(9), 936);
        x.feed(0, 0, 0);
        due("936 still", x.told(9), 936);
        x.end(1);
        due("1", x.told(9), 1);
        x.plan();
        due("none", x.told(9), 0);
    }

    /** "NONE for another what" */
    static void promise23AnotherWhat() {
        BagTree x = planned(lines(1, 1));
        for (int what : NO_WHATS) {
            due("told(" + what + ")", x.told(what), NONE);
        }
    }
}
