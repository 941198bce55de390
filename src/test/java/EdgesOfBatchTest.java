/** Promises 5 to 10: each sentence that names an edge of the batch, of what is refused, done, undone has its own test. */
public final class EdgesOfBatchTest extends Checks {
    private static final String ALL_KINDS = "table a 2;table b 2;view s = select a where c0 > 0;view p = project a c1;"
            + "view j = join a b on c1 = c0;view u = union a b;view m = minus a b;view d = distinct m;"
            + "view g = group m by c0 sum c1;view r = ring a with b on c1 = c0 keep c0, c3;";
    /** Of a tuple that is in t with 16 and in w: 256, 65536, 2 to the 24th, to the 28th, that times w's count. */
    private static final String GREAT_COUNTS = "table t 1;table w 1;view p = join t t on c0=c0;view q = join p p on c0=c0;"
            + "view h = join q p on c0=c0;view k = join h t on c0=c0;view m = join k w on c0=c0;";
    /** A walk from the tuples of a along those of b, for rounds and tuples of a ring. */
    private static final String WALK = "table a 1;table b 2;view r = ring a with b on c0 = c0 keep c2;";

    private EdgesOfBatchTest() {
    }

    public static void main(String[] args) {
        runByPromises(EdgesOfBatchTest.class, 5, 10);
    }

    // ---- promise 5

    /** "by how much its count is more (-9 to 9, not 0)", "NONE: others" */
    static void promise5MinusNineToNine() {
        BagTree x = planned("table a 1;");
        due("9", x.change(0, 1, 0, 0, 0, 9), 1);
        due("-9", x.change(0, 2, 0, 0, 0, -9), 2);
        due("1", x.change(0, 3, 0, 0, 0, 1), 3);
        due("-1", x.change(0, 4, 0, 0, 0, -1), 4);
        for (int n : new int[] {10, -10, 11, 100, MOST_INT, LEAST_INT, 1 << 16}) {
            due("" + n, x.change(0, 5, 0, 0, 0, n), NONE);
            due("of a like one " + n, x.change(0, 1, 0, 0, 0, n), NONE);
        }
        due("none of them came", x.told(5), 4);
        due("the like one stays", x.pending(0, 5), 9);
    }

    /** "not 0" */
    static void promise5NotZero() {
        BagTree x = planned("table a 1;");
        due("0", x.change(0, 1, 0, 0, 0, 0), NONE);
        due("none", x.told(5), 0);
        change(x, 0, 1, 0, 1);
        due("0 of a like one", x.change(0, 1, 0, 0, 0, 0), NONE);
        due("one", x.told(5), 1);
    }

    /** "NONE: .. no TABLE" */
    static void promise5NoTable() {
        BagTree x = planned("table a 1;table b 1;view v = distinct a;");
        due("the last table", x.change(1, 1, 0, 0, 0, 1), 1);
        due("a view", x.change(2, 1, 0, 0, 0, 1), NONE);
        due("behind all", x.change(3, 1, 0, 0, 0, 1), NONE);
        for (int r : NO_RELATIONS) {
            due("change(" + r + ", ..)", x.change(r, 1, 0, 0, 0, 1), NONE);
        }
        due("one", x.told(5), 1);
        BagTree full = planned(lines(16, 0));
        due("a sixteenth table", full.change(15, 1, 0, 0, 0, 1), 1);
        due("a seventeenth table", full.change(16, 1, 0, 0, 0, 1), NONE);
    }

    /** "(values of COLUMNS that the TABLE has not whatever)" */
    static void promise5ValuesBeyondTheColumns() {
        for (int columns = 1; columns <= 4; columns++) {
            BagTree x = planned("table a " + columns + ";");
            x.change(0, 1, 2, 3, 4, 1);
            due("another b", x.change(0, 1, -2, 3, 4, 1), columns >= 2 ? 2 : 1);
            x.cancel();
            x.change(0, 1, 2, 3, 4, 1);
            due("another c", x.change(0, 1, 2, -3, 4, 1), columns >= 3 ? 2 : 1);
            x.cancel();
            x.change(0, 1, 2, 3, 4, 1);
            due("another d", x.change(0, 1, 2, 3, -4, 1), columns >= 4 ? 2 : 1);
            x.cancel();
            x.change(0, 1, 2, 3, 4, 1);
            due("another a", x.change(0, -1, 2, 3, 4, 1), 2);
        }
    }

    /** "of like TUPLES together": the answer is how many unlike ones there are. */
    static void promise5LikeOnesTogether() {
        BagTree x = planned("table a 2;table b 2;");
        due("first", x.change(0, 1, 2, 0, 0, 3), 1);
        due("like", x.change(0, 1, 2, 9, 9, 4), 1);
        due("like in another table", x.change(1, 1, 2, 0, 0, 5), 2);
        due("together", x.pending(0, 5), 7);
        due("apart", x.pending(1, 5), 5);
    }

    /** Together they may be more than 9 (unsure: -9 to 9 is told of one change). */
    static void promise5TogetherBeyondNine() {
        BagTree x = planned("table a 1;");
        for (int k = 1; k <= 100; k++) {
            due("change", x.change(0, 7, 0, 0, 0, 9), 1);
        }
        due("together", x.pending(0, 5), 900);
        due("commit", x.commit(), 0);
        due("count", x.count(0, 7, 0, 0, 0), 900);
    }

    /** "(those of 0 are none any more)" */
    static void promise5OfZeroNoneAnyMore() {
        BagTree x = planned("table a 1;");
        change(x, 0, 1, 0, 5);
        change(x, 0, 2, 0, -3);
        due("one left", x.change(0, 1, 0, 0, 0, -5), 1);
        due("the other one", x.pending(0, 1), 2);
        due("none left", x.change(0, 2, 0, 0, 0, 3), 0);
        due("how many", x.pending(NONE, 0), 0);
        dueNoSuch("pending(0, 0)", () -> x.pending(0, 0));
        due("done, it moves nothing", x.commit(), 0);
        due("moved", x.moved(0), 0);
    }

    /** The same: the first, one in the midst and the last of some; the others stay in order. */
    static void promise5TheOthersStayInOrder() {
        for (int gone = 0; gone < 6; gone++) {
            BagTree x = planned("table a 2;table b 2;");
            for (int k = 0; k < 6; k++) {
                change(x, k / 3, k, -k, k + 1);
            }
            due("five left", x.change(gone / 3, gone, -gone, 0, 0, -gone - 1), 5);
            for (int i = 0; i < 5; i++) {
                int k = i < gone ? i : i + 1;
                due("table", x.pending(i, 0), k / 3);
                due("first column", x.pending(i, 1), k);
                due("second column", x.pending(i, 2), -k);
                due("how much", x.pending(i, 5), k + 1);
            }
            dueNoSuch("a sixth", () -> x.pending(5, 0));
        }
    }

    /** What was none any more is not below 0, though a part of it was. */
    static void promise5OfZeroIsNotBelowZero() {
        BagTree x = planned("table a 1;");
        change(x, 0, 1, 0, -9);
        change(x, 0, 1, 0, 9);
        due("commit", x.commit(), 0);
        change(x, 0, 1, 0, -9);
        change(x, 0, 1, 0, 9);
        change(x, 0, 1, 0, 1);
        due("commit", x.commit(), 0);
        due("count", x.count(0, 1, 0, 0, 0), 1);
    }

    private static BagTree withForty() {
        BagTree x = planned("table a 1;table b 1;");
        for (int k = 0; k < 40; k++) {
            due("change " + k, x.change(k % 2, k, 0, 0, 0, 2), k + 1);
        }
        return x;
    }

    /** "40 unlike ones at most", of all tables; "NONE: .. 40 there are" */
    static void promise5AFortyFirst() {
        BagTree x = withForty();
        due("a 41st", x.change(0, 99, 0, 0, 0, 1), NONE);
        due("a 41st ahead of all", x.change(0, -99, 0, 0, 0, 1), NONE);
        due("a 41st of the other table", x.change(1, 0, 0, 0, 0, 1), NONE);
        due("40", x.told(5), 40);
        due("the first is as it was", x.pending(0, 1), 0);
        due("the last is as it was", x.pending(39, 1), 39);
        due("all of them are done", x.commit(), 0);
        due("20", x.size(0), 20);
        due("and 20", x.size(1), 20);
    }

    /** "(a change that makes one of these .. another, can be)" */
    static void promise5AnotherOfForty() {
        BagTree x = withForty();
        due("more", x.change(0, 0, 0, 0, 0, 9), 40);
        due("less", x.change(1, 39, 0, 0, 0, -9), 40);
        due("the first", x.pending(0, 5), 11);
        due("the last", x.pending(39, 5), -7);
    }

    /** "(a change that makes one of these none .. can be)", and there is room for another then */
    static void promise5NoneOfForty() {
        BagTree x = withForty();
        due("none", x.change(0, 2, 0, 0, 0, -2), 39);
        due("another", x.change(0, 99, 0, 0, 0, 1), 40);
        due("a 41st", x.change(0, 98, 0, 0, 0, 1), NONE);
        due("what was none", x.change(0, 2, 0, 0, 0, 2), NONE);
    }

    /** Values are ints, the least and the greatest, too. */
    static void promise5LeastAndGreatestInts() {
        BagTree x = planned("table a 4;");
        due("least", x.change(0, LEAST_INT, LEAST_INT, LEAST_INT, LEAST_INT, 1), 1);
        due("greatest", x.change(0, MOST_INT, MOST_INT, MOST_INT, MOST_INT, 1), 2);
        due("nearly the greatest", x.change(0, MOST_INT, MOST_INT, MOST_INT, MOST_INT - 1, 1), 3);
        x.commit();
        due("first", x.at(0, 0, 3), LEAST_INT);
        due("second", x.at(0, 1, 3), MOST_INT - 1);
        due("third", x.at(0, 2, 3), MOST_INT);
    }

    // ---- promise 6

    /** "(by TABLES, then as TUPLES are told)": "by the first COLUMN, then the second, on and on, the less ahead" */
    static void promise6InOrder() {
        BagTree x = planned("table a 4;table b 4;");
        int[][] changes = {{1, LEAST_INT, 0, 0, 0}, {0, 1, 2, 3, 4}, {0, 1, 2, 3, -4}, {0, 1, 2, -3, 9},
            {0, 1, -2, 9, 9}, {0, -1, 9, 9, 9}, {0, MOST_INT, 0, 0, 0}, {0, LEAST_INT, 9, 9, 9}};
        for (int[] c : changes) {
            x.change(c[0], c[1], c[2], c[3], c[4], 1);
        }
        int[] order = {7, 5, 4, 3, 2, 1, 6, 0};
        for (int i = 0; i < order.length; i++) {
            for (int what = 0; what <= 4; what++) {
                due("pending(" + i + ", " + what + ")", x.pending(i, what), changes[order[i]][what]);
            }
        }
    }

    /** "5: how many", above and below 0 */
    static void promise6HowMuch() {
        BagTree x = planned("table a 1;");
        change(x, 0, 1, 0, -9);
        change(x, 0, 2, 0, 9);
        due("below", x.pending(0, 5), -9);
        due("above", x.pending(1, 5), 9);
    }

    /** "i NONE: how many", of none and of 40; whatever what is (unsure) */
    static void promise6HowMany() {
        BagTree x = planned("table a 1;");
        due("none", x.pending(NONE, 0), 0);
        for (int k = 0; k < 40; k++) {
            change(x, 0, k, 0, 1);
        }
        due("40", x.pending(NONE, 0), 40);
        due("what 5", x.pending(NONE, 5), 40);
        due("what 6", x.pending(NONE, 6), 40);
        due("what -1", x.pending(NONE, -1), 40);
    }

    /** "NoSuchElementException: .. none such": i is the first, the last, beyond */
    static void promise6NoSuchChange() {
        BagTree x = planned("table a 1;");
        dueNoSuch("of none", () -> x.pending(0, 0));
        change(x, 0, 5, 0, 1);
        change(x, 0, 6, 0, 1);
        due("the first", x.pending(0, 1), 5);
        due("the last", x.pending(1, 1), 6);
        for (int i : new int[] {2, 39, 40, 41, MOST_INT, -2, LEAST_INT}) {
            dueNoSuch("pending(" + i + ", 1)", () -> x.pending(i, 1));
        }
    }

    /** The same of a batch of 40. */
    static void promise6NoSuchChangeOfForty() {
        BagTree x = withForty();
        due("the 40th", x.pending(39, 0), 1);
        dueNoSuch("a 41st", () -> x.pending(40, 0));
    }

    /** "NoSuchElementException: others": what is neither 0 to 5 */
    static void promise6NoSuchWhat() {
        BagTree x = planned("table a 4;");
        x.change(0, 1, 2, 3, 4, 5);
        for (int what : new int[] {-1, 6, 7, MOST_INT, LEAST_INT}) {
            dueNoSuch("pending(0, " + what + ")", () -> x.pending(0, what));
        }
        due("0", x.pending(0, 0), 0);
        due("5", x.pending(0, 5), 5);
    }

    /** "NoSuchElementException: .. a COLUMN that it has not" */
    static void promise6AColumnThatItHasNot() {
        BagTree x = planned("table a 1;table b 2;table d 3;table e 4;");
        for (int t = 0; t < 4; t++) {
            x.change(t, 11, 12, 13, 14, 1);
        }
        for (int t = 0; t < 4; t++) {
            int i = t;
            for (int what = 1; what <= 4; what++) {
                int column = what;
                if (what <= t + 1) {
                    due("pending(" + i + ", " + what + ")", x.pending(i, what), 10 + what);
                } else {
                    dueNoSuch("pending(" + i + ", " + what + ")", () -> x.pending(i, column));
                }
            }
            due("how much", x.pending(i, 5), 1);
        }
    }

    // ---- promise 7

    /** "The BATCH is empty: how many it had": none */
    static void promise7OfNone() {
        BagTree x = planned("table a 1;");
        due("cancel", x.cancel(), 0);
        due("cancel again", x.cancel(), 0);
    }

    /** The same: 40, and there is room for 40 again */
    static void promise7OfForty() {
        BagTree x = withForty();
        due("cancel", x.cancel(), 40);
        due("none", x.told(5), 0);
        due("again", x.cancel(), 0);
        due("one", x.change(0, 1, 0, 0, 0, 1), 1);
        due("one", x.cancel(), 1);
    }

    /** A batch that was cancelled is neither done nor refused. */
    static void promise7NeitherDoneNorRefused() {
        BagTree x = planned("table a 1;view v = distinct a;");
        change(x, 0, 1, 0, 1);
        x.commit();
        change(x, 0, 2, 0, -1);
        change(x, 0, 3, 0, 1);
        due("cancel", x.cancel(), 2);
        due("done", x.told(2), 1);
        due("refused", x.told(3), 0);
        due("can be undone", x.told(4), 1);
        due("moved", x.told(7), 1);
        due("commit of what is left", x.commit(), 0);
        dueText("table", bag(x, 0), "1:1");
    }

    // ---- promise 8: what is done

    /** A BATCH without changes is DONE. */
    static void promise8AnEmptyBatch() {
        BagTree x = planned("table a 1;view v = distinct a;");
        change(x, 0, 1, 0, 1);
        due("one", x.commit(), 1);
        due("none", x.commit(), 0);
        due("done", x.told(2), 2);
        due("can be undone", x.told(4), 2);
        due("nothing moved", x.moved(0), 0);
        due("nothing moved", x.moved(1), 0);
        due("nothing came", x.came(1), 0);
        due("size", x.size(1), 1);
    }

    /** "how many TUPLES MOVED in VIEWS, together": those of tables are not among them */
    static void promise8MovedInViewsAlone() {
        BagTree x = planned("table a 1;");
        change(x, 0, 1, 0, 1);
        due("without views", x.commit(), 0);
        due("moved in the table", x.moved(0), 1);
        BagTree y = planned("table a 1;view v = distinct a;view w = union v a;");
        change(y, 0, 1, 0, 1);
        due("two views", y.commit(), 2);
        change(y, 0, 1, 0, 1);
        due("one of them", y.commit(), 1);
    }

    /** A count of a TABLE may be 0 (it is none then), not below. */
    static void promise8DownToZero() {
        BagTree x = planned("table a 1;view v = project a 5;");
        change(x, 0, 1, 0, 9);
        x.commit();
        change(x, 0, 1, 0, -9);
        due("to 0", x.commit(), 1);
        due("none", x.size(0), 0);
        due("none of the view", x.size(1), 0);
    }

    /** "a count of a TABLE would be below 0": -2, by one, and of a TUPLE that it has not */
    static void promise8BelowZero() {
        BagTree x = planned("table a 1;table b 1;");
        change(x, 0, 1, 0, 9);
        x.commit();
        change(x, 0, 1, 0, -9);
        change(x, 0, 1, 0, -1);
        due("by one", x.commit(), -2);
        change(x, 0, 2, 0, -1);
        due("of none", x.commit(), -2);
        change(x, 1, 1, 0, -1);
        due("of another table's", x.commit(), -2);
        dueText("as it was", bag(x, 0), "1:9");
    }

    /** A VIEW may have counts below 0. */
    static void promise8AViewBelowZero() {
        BagTree x = planned("table a 1;table b 1;view m = minus a b;view n = minus m b;");
        change(x, 1, 1, 0, 9);
        due("commit", x.commit(), 2);
        dueText("minus", bag(x, 2), "1:-9");
        dueText("minus again", bag(x, 3), "1:-18");
    }

    /** "REFUSED, .. the first that holds": below 0 is ahead of all others, whatever the table */
    static void promise8BelowZeroFirst() {
        BagTree x = planned("table a 1;table b 1;table e 2;view r = ring a with e on c0 = c0 keep c0 + 1;");
        fill(x, 0, 0, 120);
        change(x, 0, 120, 0, 1);
        change(x, 1, 5, 0, -1);
        due("of a table behind one of too many", x.commit(), -2);
        change(x, 0, 120, 0, 1);
        due("too many alone", x.commit(), -3);
    }

    /** "a TABLE would have more than 120 TUPLES": -3 */
    static void promise8ATableOf121() {
        BagTree x = planned("table a 1;table b 1;");
        fill(x, 1, 0, 119);
        change(x, 1, 119, 0, 1);
        due("120", x.commit(), 0);
        due("size", x.size(1), 120);
        change(x, 1, 120, 0, 1);
        due("121", x.commit(), -3);
        change(x, 1, -1, 0, 1);
        due("121 the first one", x.commit(), -3);
        change(x, 1, 60, 0, 9);
        due("one of the 120", x.commit(), 0);
        change(x, 1, 60, 0, -9);
        change(x, 1, 60, 0, -1);
        change(x, 1, 121, 0, 1);
        due("one for another", x.commit(), 0);
        due("size", x.size(1), 120);
        due("the last", x.at(1, 119, 0), 121);
    }

    /** A table of too many is ahead of every view in the order of RELATIONS. */
    static void promise8ATableAheadOfARing() {
        BagTree y = planned("table a 1;table b 2;table z 1;view r = ring a with b on c0 = c0 keep c0 + 1;");
        fill(y, 2, 0, 120);
        for (int k = 0; k < 40; k++) {
            change(y, 1, k, 0, 1);
        }
        y.commit();
        change(y, 1, 40, 0, 1);
        change(y, 0, 0, 0, 1);
        due("the ring alone", y.would(3), -4);
        change(y, 2, 500, 0, 1);
        due("the table too", y.would(3), -3);
        due("the table too", y.commit(), -3);
    }

    /** "a VIEW would have more than 120 TUPLES": a union */
    static void promise8AUnionOf121() {
        BagTree x = planned("table a 1;table b 1;view u = union a b;");
        fill(x, 0, 0, 80);
        fill(x, 1, 40, 120);
        due("120", x.size(2), 120);
        change(x, 1, 120, 0, 1);
        due("121", x.commit(), -3);
        change(x, 1, 119, 0, 1);
        due("one of them", x.commit(), 1);
        change(x, 1, -1, 0, 1);
        change(x, 1, 40, 0, -1);
        due("one that is in both goes", x.commit(), -3);
        change(x, 1, -1, 0, 1);
        change(x, 1, 80, 0, -1);
        due("one goes", x.commit(), 2);
    }

    /** The same: a minus, where like counts leave none */
    static void promise8AMinusOf121() {
        BagTree x = planned("table a 1;table b 1;view m = minus a b;");
        fill(x, 0, 0, 80);
        fill(x, 1, 79, 120);
        x.commit();
        due("119 and one of 0", x.size(2), 119);
        change(x, 1, 79, 0, 1);
        due("120", x.commit(), 1);
        change(x, 1, 120, 0, 1);
        due("121", x.commit(), -3);
        change(x, 1, 120, 0, 1);
        change(x, 0, 79, 0, 1);
        due("120 again", x.commit(), 2);
        due("120", x.size(2), 120);
    }

    /** The same: a join */
    static void promise8AJoinOf121() {
        BagTree x = planned("table a 2;table b 2;view j = join a b on c0 = c0;");
        for (int k = 0; k < 10; k++) {
            change(x, 0, 1, k, 1);
        }
        for (int k = 0; k < 12; k++) {
            change(x, 1, 1, k, 1);
        }
        due("10 times 12", x.commit(), 120);
        change(x, 0, 2, 0, 1);
        due("one without another", x.commit(), 0);
        change(x, 1, 2, 0, 1);
        due("121", x.commit(), -3);
        due("as it was", x.size(2), 120);
    }

    /** Views of other kinds have no more tuples than their R: 120 of 120 are fine. */
    static void promise8ViewsOf120() {
        BagTree x = planned("table a 1;table b 1;view s = select a where c0 > 0;view p = project a c0 - 1;view d = distinct a;"
                + "view g = group a by c0 count;view r = ring a with b on c0 = c0 keep c0;");
        fill(x, 0, 1, 121);
        for (int r = 2; r < 7; r++) {
            due("120", x.size(r), 120);
        }
        change(x, 0, 121, 0, 1);
        change(x, 0, 1, 0, -1);
        due("one for another", x.commit(), 4 * 2 + 2);
    }

    // ---- promise 8: pairs of a join

    /** Counts of 16 make 256 in p, 65536 in q: a pair of these is alike, its count wraps to 0. */
    private static BagTree pairsOfZero() {
        BagTree x = planned("table t 2;view p = join t t on c0=c0,c1=c1;view q = join p p on c0=c0,c1=c1;"
                + "view j = join q q on c0=c0;");
        addSixteen(x, 7, 0, 38);
        due("38 times 38 pairs are 1444", x.commit(), 76);
        addSixteen(x, 8, 0, 7);
        due("and 7 times 7, 1493", x.commit(), 14);
        addSixteen(x, 9, 0, 2);
        addSixteen(x, 10, 0, 1);
        due("and 4, and 1, 1498", x.commit(), 6);
        return x;
    }

    private static void addSixteen(BagTree x, int a, int from, int to) {
        for (int k = from; k < to; k++) {
            change(x, 0, a, k, 8);
            change(x, 0, a, k, 8);
        }
    }

    /** "of a join more than 1500 pairs a, b would be alike so (whatever their counts)": 1500 are fine */
    static void promise8PairsOf1500() {
        BagTree x = pairsOfZero();
        addSixteen(x, 11, 0, 1);
        addSixteen(x, 12, 0, 1);
        due("1500", x.would(3), 0);
        due("1500", x.commit(), 4);
        due("none of them has a count", x.size(3), 0);
    }

    /** The same: 1501 are refused (-3: unsure, the document tells no answer of its own for it) */
    static void promise8PairsOf1501() {
        BagTree x = pairsOfZero();
        addSixteen(x, 11, 0, 1);
        addSixteen(x, 12, 0, 1);
        addSixteen(x, 13, 0, 1);
        due("1501", x.would(3), -3);
        due("1501", x.commit(), -3);
        due("as it was", x.size(0), 48);
        due("1498 and 1", x.change(0, 11, 0, 0, 0, 8), 1);
    }

    /** A join of too many pairs ahead of a ring of too many rounds, and behind it, in the order of RELATIONS */
    static void promise8PairsAndARing() {
        String join = "view p = join t t on c0=c0,c1=c1;view q = join p p on c0=c0,c1=c1;view j = join q q on c0=c0;";
        String ring = "view r = ring a with b on c0 = c0 keep c0 + 1;";
        for (int k = 0; k < 2; k++) {
            BagTree x = planned("table t 2;table a 1;table b 1;" + (k == 0 ? join + ring : ring + join));
            fill(x, 2, 0, 40);
            addSixteen(x, 7, 0, 38);
            x.commit();
            change(x, 2, 40, 0, 1);
            change(x, 1, 0, 0, 1);
            due("41 rounds", x.would(0), -4);
            addSixteen(x, 7, 38, 39);
            due("1521 pairs and 41 rounds", x.commit(), k == 0 ? -3 : -4);
        }
    }

    // ---- promise 8: rings

    private static BagTree walkOf(int steps) {
        BagTree x = planned(WALK);
        for (int k = 0; k < steps; k++) {
            change(x, 1, k, k + 1, 1);
        }
        due("steps alone", x.commit(), 0);
        return x;
    }

    /** "a ring would have more than 40 ROUNDS behind ROUND 0 (its 41st would still bring new ones)": 40 are fine */
    static void promise8ARingOf40Rounds() {
        BagTree x = walkOf(40);
        change(x, 0, 0, 0, 1);
        due("40", x.commit(), 41);
        due("rounds", x.rounds(2), 40);
        due("the last", x.round(2, 40, 0, 0, 0), 40);
    }

    /** The same: a 41st ROUND that brings old ones alone is fine */
    static void promise8A41stRoundOfOldOnes() {
        BagTree x = walkOf(40);
        change(x, 1, 40, 0, 1);
        change(x, 1, 40, 20, 1);
        change(x, 1, 40, 40, 1);
        change(x, 0, 0, 0, 1);
        due("40", x.commit(), 41);
        due("rounds", x.rounds(2), 40);
    }

    /** The same: -4 with a 41st that brings new ones */
    static void promise8ARingOf41Rounds() {
        BagTree x = walkOf(40);
        change(x, 1, 40, 41, 1);
        due("no start", x.commit(), 0);
        change(x, 0, 0, 0, 1);
        due("41", x.would(2), -4);
        due("41", x.commit(), -4);
        due("as it was", x.size(2), 0);
        change(x, 0, 1, 0, 1);
        due("from the second on", x.commit(), 41);
        due("rounds", x.rounds(2), 40);
    }

    /** The same: where the one of the 41st comes ahead of all others in order */
    static void promise8ARingOf41RoundsTheLeastLast() {
        BagTree x = walkOf(40);
        change(x, 1, 40, -5, 1);
        change(x, 0, 0, 0, 1);
        due("41", x.would(0), -4);
        due("41", x.commit(), -4);
        change(x, 1, 39, -5, 1);
        change(x, 0, 0, 0, 1);
        due("40", x.commit(), 42);
        due("round", x.round(2, -5, 0, 0, 0), 40);
    }

    /** A ring without an end is refused, however far it would go. */
    static void promise8ARingWithoutAnEnd() {
        BagTree x = planned("table a 1;table b 1;view n = project a c0, 0;view e = project b 0;"
                + "view r = ring n with e on c1 = c0 keep c0 + 1, c1;");
        change(x, 0, 1, 0, 1);
        change(x, 1, 1, 0, 1);
        due("without an end", x.commit(), -4);
        change(x, 0, 1, 0, 1);
        due("without a second", x.commit(), 2);
    }

    /** "or more than 120 TUPLES": 120 are fine, -3 with one more */
    static void promise8ARingOf121() {
        BagTree x = planned(WALK);
        fill(x, 0, 1000, 1119);
        change(x, 0, 0, 0, 1);
        due("120 of round 0", x.commit() >= 0 ? 1 : 0, 1);
        due("size", x.size(2), 120);
        change(x, 1, 0, 1000, 1);
        due("an old one", x.commit(), 0);
        change(x, 1, 0, 1, 1);
        due("121", x.commit(), -3);
        change(x, 0, 1118, 0, -1);
        change(x, 1, 0, 1, 1);
        due("one fewer ahead of it", x.commit(), 2);
        due("size", x.size(2), 120);
        due("round", x.round(2, 1, 0, 0, 0), 1);
    }

    /** "(what comes first along its ROUNDS)": too many tuples in round 40, too many rounds behind it */
    static void promise8TuplesFirst() {
        BagTree x = walkOf(40);
        change(x, 1, 40, 41, 1);
        change(x, 1, 39, 5000, 1);
        fill(x, 0, 1000, 1037);
        x.commit();
        fill(x, 0, 1037, 1077);
        change(x, 0, 1077, 0, 1);
        change(x, 0, 1078, 0, 1);
        change(x, 0, 0, 0, 1);
        due("121 in round 40 ahead of round 41", x.commit(), -3);
    }

    /** The same: a 41st round of the 121st tuple is one too many ROUNDS (unsure: both come at once) */
    static void promise8RoundsFirst() {
        BagTree x = walkOf(40);
        fill(x, 0, 1000, 1079);
        change(x, 0, 0, 0, 1);
        due("120 tuples, 40 rounds", x.commit() >= 0 ? 1 : 0, 1);
        due("size", x.size(2), 120);
        change(x, 1, 40, 41, 1);
        due("both at once", x.commit(), -4);
        due("as it was", x.rounds(2), 40);
    }

    /** The same: a 41st round long ahead of 121 tuples */
    static void promise8RoundsFirstByFar() {
        BagTree x = walkOf(40);
        change(x, 1, 40, 41, 1);
        x.commit();
        fill(x, 0, 1000, 1030);
        change(x, 0, 0, 0, 1);
        due("71 tuples, 41 rounds", x.commit(), -4);
    }

    /** "in the order of RELATIONS": a view of too many tuples ahead of a ring of too many rounds, and behind it */
    static void promise8InTheOrderOfRelations() {
        String ring = "view r = ring a with b on c0 = c0 keep c0 + 1;";
        String union = "view u = union d e;";
        for (int k = 0; k < 2; k++) {
            BagTree x = planned("table a 1;table b 1;table d 1;table e 1;" + (k == 0 ? ring + union : union + ring));
            fill(x, 1, 0, 40);
            fill(x, 2, 0, 80);
            fill(x, 3, 80, 120);
            change(x, 1, 40, 0, 1);
            change(x, 0, 0, 0, 1);
            due("the ring", x.would(0), -4);
            change(x, 3, 120, 0, 1);
            due("both", x.commit(), k == 0 ? -4 : -3);
            change(x, 3, 120, 0, 1);
            due("the union", x.commit(), -3);
        }
    }

    // ---- promise 8: behind a batch

    private static final int[] CODES = {0, -2, -3, -4};

    /** A ring of 40 rounds, a full table, and a view on them, with one batch done last. */
    private static BagTree nearAllLimits() {
        BagTree x = planned("table a 1;table b 1;table z 1;view r = ring a with b on c0 = c0 keep c0 + 1;view d = distinct r;");
        fill(x, 1, 0, 40);
        fill(x, 2, 0, 120);
        change(x, 0, 0, 0, 1);
        due("41 and 41", x.commit(), 82);
        return x;
    }

    /** Changes to which commit answers 0, -2, -3 or -4. */
    private static void changeFor(BagTree x, int code) {
        change(x, 0, 0, 0, 1);
        if (code == -2) {
            change(x, 0, 6, 0, -1);
        } else if (code == -3) {
            change(x, 2, 120, 0, 1);
        } else if (code == -4) {
            change(x, 1, 40, 0, 1);
        }
    }

    /** "The BATCH is empty behind that in any case." */
    static void promise8TheBatchIsEmptyBehind() {
        for (int code : CODES) {
            BagTree x = nearAllLimits();
            changeFor(x, code);
            due("commit", x.commit(), code);
            due("changes", x.told(5), 0);
            due("pending", x.pending(NONE, 0), 0);
            dueNoSuch("pending(0, 0)", () -> x.pending(0, 0));
            due("cancel", x.cancel(), 0);
            due("one change", x.change(0, 9, 0, 0, 0, 1), 1);
        }
    }

    /** "REFUSED, all as it was" */
    static void promise8AllAsItWas() {
        for (int code : CODES) {
            if (code == 0) {
                continue;
            }
            BagTree x = nearAllLimits();
            changeFor(x, code);
            due("commit", x.commit(), code);
            due("refused", x.told(3), 1);
            due("done", x.told(2), 5);
            due("can be undone", x.told(4), 5);
            due("tuples", x.told(6), 82);
            due("moved", x.told(7), 82);
            due("came", x.told(8), 1 + 41);
            due("moved of the table", x.movedAt(0, 0, 0), 0);
            due("count", x.count(0, 0, 0, 0, 0), 1);
            due("sizes", x.size(0) + x.size(1) + x.size(2), 161);
            due("rounds", x.rounds(3), 40);
            due("differs", x.differs(4), 0);
            due("undo", x.undo(), 4);
            due("what it undoes", x.size(3), 0);
        }
    }

    /** A refused batch does not stand in the way of the next. */
    static void promise8DoneBehindARefusedOne() {
        for (int code : CODES) {
            BagTree x = nearAllLimits();
            changeFor(x, code);
            x.commit();
            change(x, 1, 39, 0, -1);
            due("one step fewer", x.commit(), 2);
            due("rounds", x.rounds(3), 39);
            dueText("moved", moves(x, 3), "40:-1");
        }
    }

    // ---- promise 8: reckoning wraps

    /** "Values .. that come of reckoning are ints, wrapping": terms of a project */
    static void promise8TermsWrap() {
        BagTree x = planned("table a 1;view p = project a c0 + 1;view q = project a c0 - 1;view r = project a c0 + 9999;view s = project a c0 - 9999;");
        change(x, 0, MOST_INT, 0, 1);
        change(x, 0, LEAST_INT, 0, 1);
        x.commit();
        dueText("+ 1", bag(x, 1), LEAST_INT + ":1 " + (LEAST_INT + 1) + ":1");
        dueText("- 1", bag(x, 2), (MOST_INT - 1) + ":1 " + MOST_INT + ":1");
        dueText("+ 9999", bag(x, 3), (LEAST_INT + 9998) + ":1 " + (LEAST_INT + 9999) + ":1");
        dueText("- 9999", bag(x, 4), (MOST_INT - 9999) + ":1 " + (MOST_INT - 9998) + ":1");
    }

    /** The same: terms of a ring */
    static void promise8TermsOfARingWrap() {
        BagTree x = planned("table a 1;table b 1;view r = ring a with b on c0 = c0 keep c0 + 1;");
        change(x, 0, MOST_INT, 0, 1);
        change(x, 1, MOST_INT, 0, 1);
        change(x, 1, LEAST_INT, 0, 1);
        x.commit();
        dueText("ring", bag(x, 2), LEAST_INT + ":1 " + (LEAST_INT + 1) + ":1 " + MOST_INT + ":1");
        due("round", x.round(2, LEAST_INT + 1, 0, 0, 0), 2);
    }

    /** A column less a number is no column less its wrap: tests compare ints, they don't take one from another. */
    static void promise8TestsDontWrap() {
        BagTree x = planned("table a 2;view l = select a where c0 < c1;view g = select a where c0 > c1;view z = select a where c0 < 1;");
        change(x, 0, LEAST_INT, MOST_INT, 1);
        change(x, 0, MOST_INT, LEAST_INT, 1);
        x.commit();
        dueText("<", bag(x, 1), LEAST_INT + "," + MOST_INT + ":1");
        dueText(">", bag(x, 2), MOST_INT + "," + LEAST_INT + ":1");
        dueText("< 1", bag(x, 3), LEAST_INT + "," + MOST_INT + ":1");
    }

    private static BagTree greatCounts(String more) {
        BagTree x = planned(GREAT_COUNTS + more);
        for (int k = 1; k <= 2; k++) {
            change(x, 0, k, 0, 8);
            change(x, 0, k, 0, 8);
            change(x, 1, k, 0, 8);
        }
        x.commit();
        return x;
    }

    /** "counts that come of reckoning are ints, wrapping": products of a join; one of 0 is none */
    static void promise8ProductsWrap() {
        BagTree x = greatCounts("view z = join m w on c0=c0;");
        dueText("2 to the 28th", bag(x, 5), "1:268435456 2:268435456");
        dueText("2 to the 31st", bag(x, 6), "1:" + LEAST_INT + " 2:" + LEAST_INT);
        dueText("2 to the 34th", bag(x, 7), "");
    }

    /** The same: union, minus; a count that wraps below 0 is not above 0 */
    static void promise8SumsWrap() {
        BagTree x = greatCounts("view u = union m m;view n = minus w m;view o = minus m w;view d = distinct m;");
        dueText("together", bag(x, 7), "");
        dueText("8 less the least", bag(x, 8), "1:" + (8 - LEAST_INT) + " 2:" + (8 - LEAST_INT));
        dueText("the least less 8", bag(x, 9), "1:" + (MOST_INT - 7) + " 2:" + (MOST_INT - 7));
        dueText("distinct", bag(x, 10), "");
    }

    /** The same: counts together of a project, and of a group, which has its tuple still */
    static void promise8CountsTogetherWrap() {
        BagTree x = greatCounts("view v = project m 5;view o = project m 5, c0;view g = group o by c0 count;view s = group o by c0 sum c1;");
        dueText("project", bag(x, 7), "");
        dueText("count", bag(x, 9), "5,0:1");
        dueText("sum", bag(x, 10), "5," + LEAST_INT + ":1");
    }

    /** The same: values of a sum */
    static void promise8ValuesOfASumWrap() {
        BagTree x = planned("table a 2;view s = group a by c0 sum c1;");
        change(x, 0, 1, MOST_INT, 2);
        change(x, 0, 2, LEAST_INT, 2);
        change(x, 0, 3, MOST_INT, 1);
        change(x, 0, 3, 1, 1);
        x.commit();
        dueText("sum", bag(x, 1), "1,-2:1 2,0:1 3," + LEAST_INT + ":1");
    }

    // ---- promise 8: edges of the kinds of views

    /** "the TUPLE of a and of b's COLUMNS that are not told there, counts times each other": none, one, all but one of b's */
    static void promise8ColumnsOfAJoin() {
        BagTree x = planned("table a 1;table b 2;table d 3;view j = join a d on c0 = c1;view k = join d a on c1 = c0;"
                + "view l = join b b on c0 = c1, c1 = c0;view m = join b d on c1 = c2, c0 = c0;view n = join a b on c0 = c0;");
        x.change(0, 5, 0, 0, 0, 2);
        x.change(1, 5, 6, 0, 0, 3);
        x.change(1, 6, 5, 0, 0, 1);
        x.change(2, 4, 5, 9, 0, 2);
        x.change(2, 5, 7, 6, 0, 4);
        x.change(2, 5, 5, 5, 0, 1);
        x.commit();
        dueText("a column, then the first and the last", bag(x, 3), "5,4,9:4 5,5,5:2");
        dueText("all of the first", bag(x, 4), "4,5,9:4 5,5,5:2");
        dueText("none of the second", bag(x, 5), "5,6:3 6,5:3");
        dueText("the middle one", bag(x, 6), "5,6,7:12");
        dueText("the second one", bag(x, 7), "5,6:6");
    }

    /** "for which these are alike": all pairs, four of them */
    static void promise8FourPairsOfAJoin() {
        BagTree x = planned("table e 4;table f 4;view j = join e f on c0 = c3, c1 = c2, c2 = c1, c3 = c0;");
        x.change(0, 1, 2, 3, 4, 1);
        x.change(1, 4, 3, 2, 1, 5);
        x.change(1, 4, 3, 2, 0, 1);
        x.change(1, 4, 3, 0, 1, 1);
        x.change(1, 4, 0, 2, 1, 1);
        x.change(1, 0, 3, 2, 1, 1);
        x.commit();
        dueText("join", bag(x, 2), "1,2,3,4:5");
    }

    /** What is gone from an R is in no view any more, and full tables have no tuple beyond the last. */
    static void promise8WhatIsGoneIsGone() {
        BagTree x = planned("table a 1;table b 1;view j = join a b on c0 = c0;view u = union a b;view g = group a by c0 count;"
                + "view r = ring a with b on c0 = c0 keep c0;");
        for (int k = 0; k < 3; k++) {
            fill(x, 0, 0, 5);
            fill(x, 1, 0, 5);
            x.commit();
            change(x, 0, 4, 0, -1);
            change(x, 1, 0, 0, -1);
            change(x, 1, 4, 0, -1);
            x.commit();
            dueText("join", bag(x, 2), "1:1 2:1 3:1");
            dueText("union", bag(x, 3), "0:1 1:2 2:2 3:2");
            dueText("group", bag(x, 4), "0,1:1 1,1:1 2,1:1 3,1:1");
            for (int i = 0; i < 4; i++) {
                change(x, 0, i, 0, -1);
            }
            for (int i = 1; i < 4; i++) {
                change(x, 1, i, 0, -1);
            }
            x.commit();
            due("tuples", x.told(6), 0);
        }
        fill(x, 0, 0, 120);
        fill(x, 1, 0, 120);
        due("join", x.size(2), 120);
        due("union", x.size(3), 120);
        due("ring", x.size(5), 120);
    }

    /** Sixteen tables and no view, changes in the first and the last. */
    static void promise8SixteenTables() {
        BagTree x = planned(lines(16, 0));
        change(x, 0, 1, 0, 1);
        change(x, 15, 2, 0, 3);
        due("would", x.would(15), 1);
        due("commit", x.commit(), 0);
        dueText("the first", bag(x, 0), "1:1");
        dueText("the last", bag(x, 15), "2:3");
        due("undo", x.undo(), 0);
        due("the last", x.size(15), 0);
    }

    /** "count: counts together": of one, of some, of some below 0; by three columns in the order in which they are told */
    static void promise8CountsOfAGroup() {
        BagTree x = planned("table a 4;table b 4;view m = minus a b;view n = group m by c3 count;view o = group m by c2,c0,c1 count;");
        x.change(0, 1, 2, 3, 4, 5);
        x.change(0, 1, 2, 3, 5, 1);
        x.change(1, 2, 2, 3, 4, 7);
        x.commit();
        dueText("by one", bag(x, 3), "4,-2:1 5,1:1");
        dueText("by three", bag(x, 4), "3,1,2,6:1 3,2,2,-7:1");
    }

    /** "counts together": those of 0 are none */
    static void promise8CountsTogetherOfZero() {
        BagTree x = planned("table a 2;table b 2;view m = minus a b;view p = project m c0;view u = union m b;view z = minus a a;");
        change(x, 0, 1, 1, 3);
        change(x, 1, 1, 2, 3);
        change(x, 1, 2, 2, 1);
        x.commit();
        dueText("project", bag(x, 3), "2:-1");
        dueText("union", bag(x, 4), "1,1:3");
        dueText("minus", bag(x, 5), "");
    }

    /** "distinct R: each TUPLE of R with a count above 0, with 1": 1, more, none of -1 */
    static void promise8DistinctOfCounts() {
        BagTree x = planned("table a 1;table b 1;view m = minus a b;view d = distinct m;");
        change(x, 0, 1, 0, 1);
        change(x, 0, 2, 0, 9);
        change(x, 1, 3, 0, 1);
        change(x, 1, 4, 0, 9);
        change(x, 1, 4, 0, -9);
        x.commit();
        dueText("distinct", bag(x, 3), "1:1 2:1");
    }

    /** "least COLUMN, most COLUMN: of TUPLES with a count above 0 (0, if there are none)" */
    static void promise8LeastAndMostOfNone() {
        BagTree x = planned("table a 2;table b 2;view m = minus a b;view l = group m by c0 least c1;view h = group m by c0 most c1;");
        change(x, 1, 1, 7, 1);
        change(x, 0, 2, 7, 1);
        change(x, 1, 2, 9, 1);
        change(x, 1, 2, 5, 1);
        change(x, 0, 3, -7, 1);
        change(x, 0, 3, LEAST_INT, 1);
        change(x, 0, 4, MOST_INT, 1);
        change(x, 0, 4, 3, 1);
        x.commit();
        dueText("least", bag(x, 3), "1,0:1 2,7:1 3," + LEAST_INT + ":1 4,3:1");
        dueText("most", bag(x, 4), "1,0:1 2,7:1 3,-7:1 4," + MOST_INT + ":1");
    }

    /** A row of a group whose counts together are 0 is there still, one without TUPLES is not. */
    static void promise8AGroupOfZero() {
        BagTree x = planned("table a 2;table b 2;view m = minus a b;view n = group m by c0 count;view s = group m by c0 sum c1;");
        change(x, 0, 1, 5, 2);
        change(x, 1, 1, 5, 2);
        change(x, 0, 2, 5, 2);
        change(x, 1, 2, 6, 2);
        x.commit();
        dueText("count", bag(x, 3), "2,0:1");
        dueText("sum", bag(x, 4), "2,-2:1");
    }

    /** "It ENDS with a ROUND without new ones": at once, if the second R or the first has nothing above 0 */
    static void promise8ARingOfNothing() {
        BagTree x = planned("table a 1;table b 1;view m = minus a b;view r = ring m with b on c0 = c0 keep c0 + 1;"
                + "view q = ring a with m on c0 = c0 keep c0 + 1;");
        change(x, 1, 5, 0, 1);
        change(x, 0, 4, 0, 1);
        change(x, 1, 4, 0, 1);
        x.commit();
        dueText("none above 0 of the first", bag(x, 3), "");
        dueText("none above 0 of the second", bag(x, 4), "4:1");
        due("rounds", x.rounds(3), 0);
        due("rounds", x.rounds(4), 0);
    }

    /** "of each TUPLE a that came in the ROUND ahead": those of rounds ahead of it don't go on again */
    static void promise8OnlyTheRoundAheadGoesOn() {
        BagTree x = planned("table a 1;table b 1;view r = ring a with b on c0 = c0 keep c0 + 2;");
        change(x, 0, 0, 0, 1);
        change(x, 0, 1, 0, 1);
        fill(x, 1, 0, 6);
        x.commit();
        dueText("ring", bag(x, 2), "0:1 1:1 2:1 3:1 4:1 5:1 6:1 7:1");
        due("rounds", x.rounds(2), 3);
        due("round of 6", x.round(2, 6, 0, 0, 0), 3);
        due("round of 7", x.round(2, 7, 0, 0, 0), 3);
    }

    // ---- promise 9

    /** "How many TUPLES a RELATION would have": with an empty batch as many as it has */
    static void promise9OfAnEmptyBatch() {
        BagTree x = planned(ALL_KINDS);
        for (int r = 0; r < 10; r++) {
            due("of nothing", x.would(r), 0);
        }
        change(x, 0, 1, 2, 1);
        change(x, 1, 2, 3, 1);
        x.commit();
        for (int r = 0; r < 10; r++) {
            due("would(" + r + ")", x.would(r), x.size(r));
        }
    }

    /** It tells what commit makes, of every kind. */
    static void promise9AsCommitMakesIt() {
        BagTree x = planned(ALL_KINDS);
        change(x, 0, 1, 2, 1);
        change(x, 1, 2, 3, 1);
        change(x, 0, -1, 2, 1);
        int[] would = new int[10];
        for (int r = 0; r < 10; r++) {
            would[r] = x.would(r);
            due("nothing is done", x.size(r), 0);
        }
        x.commit();
        for (int r = 0; r < 10; r++) {
            due("would(" + r + ")", would[r], x.size(r));
        }
        due("of the table", would[0], 2);
        due("of the ring", would[9], 4);
    }

    /** "(-2, -3, -4: REFUSED)", of each relation, and nothing is refused by it */
    static void promise9Refused() {
        for (int code : CODES) {
            BagTree x = nearAllLimits();
            changeFor(x, code);
            int changes = x.told(5);
            for (int r = 0; r < 5; r++) {
                due("would(" + r + ")", x.would(r), code == 0 ? x.size(r) : code);
            }
            due("changes", x.told(5), changes);
            due("refused", x.told(3), 0);
            due("done", x.told(2), 5);
            due("moved", x.told(7), 82);
            due("rounds", x.rounds(3), 40);
            due("size", x.size(0), 1);
            due("commit", x.commit(), code);
        }
    }

    /** 120 are not refused, 121 are. */
    static void promise9Of120And121() {
        BagTree x = planned("table a 1;view d = distinct a;");
        fill(x, 0, 0, 119);
        change(x, 0, 119, 0, 1);
        due("120", x.would(0), 120);
        due("120", x.would(1), 120);
        due("commit", x.commit() >= 0 ? 1 : 0, 1);
        change(x, 0, 120, 0, 1);
        due("121", x.would(0), -3);
        change(x, 0, 5, 0, -1);
        due("120 again", x.would(1), 120);
    }

    /** "NONE: others", also where the batch would be refused (unsure which is first) */
    static void promise9Others() {
        BagTree x = planned("table a 1;view d = distinct a;");
        due("the last", x.would(1), 0);
        due("behind all", x.would(2), NONE);
        for (int r : NO_RELATIONS) {
            due("would(" + r + ")", x.would(r), NONE);
        }
        change(x, 0, 1, 0, -1);
        due("refused", x.would(1), -2);
        due("refused, behind all", x.would(2), NONE);
        due("refused, -1", x.would(-1), NONE);
    }

    // ---- promise 10

    /** "NONE: none can": of a new object, a new plan, behind the last one, and nothing else is done then */
    static void promise10NoneCan() {
        due("of a new object", new BagTree().undo(), NONE);
        BagTree x = planned("table a 1;view d = distinct a;");
        due("of a new plan", x.undo(), NONE);
        change(x, 0, 1, 0, 1);
        due("of a batch not done", x.undo(), NONE);
        x.commit();
        due("the one", x.undo(), 0);
        due("moved by it", x.moved(1), 1);
        due("behind it", x.undo(), NONE);
        due("moved still", x.moved(1), 1);
        due("size", x.size(0), 0);
    }

    private static BagTree doneTimes(int times) {
        BagTree x = planned("table a 1;view v = project a c0 + 1;");
        for (int k = 0; k < times; k++) {
            change(x, 0, k, 0, 1);
            due("commit", x.commit(), 1);
            due("can be undone", x.told(4), Math.min(k + 1, 8));
        }
        return x;
    }

    /** "The latest 8 BATCHES that were DONE can be UNDONE, the latest first": eight of eight */
    static void promise10EightOfEight() {
        BagTree x = doneTimes(8);
        for (int k = 7; k >= 0; k--) {
            due("undo", x.undo(), k);
            due("size", x.size(1), k);
            dueText("moved", moves(x, 1), (k + 1) + ":-1");
        }
        due("no more", x.undo(), NONE);
        due("size", x.size(1), 0);
    }

    /** The same: eight of nine, the first one stays */
    static void promise10EightOfNine() {
        BagTree x = doneTimes(9);
        for (int k = 7; k >= 0; k--) {
            due("undo", x.undo(), k);
        }
        due("no more", x.undo(), NONE);
        dueText("the first stays", bag(x, 0), "0:1");
    }

    /** The same: eight of twenty, twice round where they are kept */
    static void promise10EightOfTwenty() {
        BagTree x = doneTimes(20);
        for (int k = 7; k >= 0; k--) {
            due("undo", x.undo(), k);
            due("size", x.size(0), 12 + k);
        }
        due("no more", x.undo(), NONE);
    }

    /** Done, undone and done again: what can be undone goes up and down. */
    static void promise10DoneAndUndone() {
        BagTree x = doneTimes(10);
        due("undo", x.undo(), 7);
        due("undo", x.undo(), 6);
        due("undo", x.undo(), 5);
        change(x, 0, 100, 0, 1);
        x.commit();
        due("can be", x.told(4), 6);
        due("undo", x.undo(), 5);
        dueText("moved", moves(x, 0), "100:-1");
        for (int k = 4; k >= 0; k--) {
            due("undo", x.undo(), k);
            dueText("moved", moves(x, 0), (k + 2) + ":-1");
        }
        due("no more", x.undo(), NONE);
        dueText("two stay", bag(x, 0), "0:1 1:1");
    }

    /** An empty batch that was done is undone as any other. */
    static void promise10AnEmptyBatch() {
        BagTree x = doneTimes(1);
        x.commit();
        due("the empty one", x.undo(), 1);
        due("nothing moved", x.told(7), 0);
        due("nothing came", x.told(8), 0);
        due("size", x.size(0), 1);
        due("the other", x.undo(), 0);
        due("size", x.size(0), 0);
    }

    /** Nine batches, eight of them empty: the one with a change can't be undone any more. */
    static void promise10EmptyBatchesAreOfTheEight() {
        BagTree x = doneTimes(1);
        for (int k = 0; k < 8; k++) {
            due("commit", x.commit(), 0);
        }
        for (int k = 7; k >= 0; k--) {
            due("undo", x.undo(), k);
        }
        due("no more", x.undo(), NONE);
        due("size", x.size(0), 1);
    }

    /** A refused batch can't be undone, and is none of the eight. */
    static void promise10NotARefusedOne() {
        BagTree x = doneTimes(8);
        for (int k = 0; k < 3; k++) {
            change(x, 0, 99, 0, -1);
            due("refused", x.commit(), -2);
        }
        due("can be", x.told(4), 8);
        due("undo", x.undo(), 7);
        dueText("the latest that was done", moves(x, 0), "7:-1");
    }

    /** "TABLES, VIEWS are as ahead of it": every kind, with counts and rounds */
    static void promise10AsAheadOfIt() {
        BagTree x = planned(ALL_KINDS);
        change(x, 0, 1, 2, 2);
        change(x, 0, 5, 2, 1);
        change(x, 1, 2, 3, 1);
        change(x, 1, 1, 2, 3);
        x.commit();
        String[] ahead = new String[10];
        for (int r = 0; r < 10; r++) {
            ahead[r] = bag(x, r);
        }
        change(x, 0, 1, 3, 1);
        change(x, 0, 5, 2, -1);
        change(x, 1, 3, 1, 2);
        change(x, 1, 1, 2, -2);
        x.commit();
        due("undo", x.undo(), 1);
        for (int r = 0; r < 10; r++) {
            dueText("bag " + r, bag(x, r), ahead[r]);
            due("differs", x.differs(r), 0);
        }
        due("rounds", x.rounds(9), 1);
        due("round", x.round(9, 1, 3, 0, 0), 1);
    }

    /** At the limits: 120 tuples for 120 others, 40 rounds, and a ring's rounds as they were */
    static void promise10AtTheLimits() {
        BagTree x = nearAllLimits();
        for (int k = 0; k < 19; k++) {
            change(x, 2, k, 0, -1);
            change(x, 2, 200 + k, 0, 1);
        }
        change(x, 1, 20, 0, -1);
        due("commit", x.commit(), 40);
        due("rounds", x.rounds(3), 20);
        due("undo", x.undo(), 5);
        due("rounds", x.rounds(3), 40);
        due("size", x.size(2), 120);
        due("the first", x.at(2, 0, 0), 0);
        due("the last", x.at(2, 119, 0), 119);
        due("moved", x.moved(2), 38);
        due("moved of the ring", x.moved(3), 20);
    }

    /** The batch that is being gathered stays (unsure), and so does told(2). */
    static void promise10TheBatchStays() {
        BagTree x = doneTimes(2);
        change(x, 0, 50, 0, 3);
        due("undo", x.undo(), 1);
        due("changes", x.told(5), 1);
        due("the change", x.pending(0, 5), 3);
        due("done", x.told(2), 2);
        due("commit", x.commit(), 1);
        due("done", x.told(2), 3);
        dueText("table", bag(x, 0), "0:1 50:3");
    }

    /** A new PLAN: nothing can be UNDONE, though batches of the one ahead could. */
    static void promise10NotBehindANewPlan() {
        BagTree x = doneTimes(3);
        due("a fault", plan(x, "table") < NONE ? 1 : 0, 1);
        due("undo behind a fault", x.undo(), 2);
        due("a plan", plan(x, "table a 1;"), 1);
        due("undo", x.undo(), NONE);
        change(x, 0, 7, 0, 1);
        x.commit();
        due("its own", x.undo(), 0);
        due("no other", x.undo(), NONE);
    }

    // ---- the 512 calls

    /** "An object is used for at most 512 calls": every one of them is answered as due, to the last. */
    static void promise8All512Calls() {
        BagTree x = new BagTree();
        byte[] text = "table a 1;view d=distinct a;".getBytes(java.nio.charset.StandardCharsets.US_ASCII);
        x.feed(eightBytes(text, 0), eightBytes(text, 8), eightBytes(text, 16));
        x.feed(eightBytes(text, 24), 0, 0);
        x.end(28);
        due("plan", x.plan(), 2);
        int calls = 4;
        int done = 0;
        while (calls + 2 <= 510) {
            due("change", x.change(0, done % 120, 0, 0, 0, 9), 1);
            due("commit", x.commit(), done < 120 ? 1 : 0);
            calls += 2;
            done++;
        }
        due("calls", calls, 510);
        due("the 511th", x.told(2), 253);
        due("the 512th", x.total(0), 9 * 253);
    }

    /** The same: 506 changes of one tuple are one change, whose amount is all of them together. */
    static void promise5All512Calls() {
        BagTree x = planned("table a 1;");
        for (int k = 0; k < 506; k++) {
            due("change", x.change(0, 3, 0, 0, 0, -9), 1);
        }
        due("the 510th", x.pending(0, 5), -9 * 506);
        due("the 511th", x.commit(), -2);
        due("the 512th", x.told(3), 1);
    }
}
