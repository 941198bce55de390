/** Each promise of the document: ordinary inputs, the edges that it names, wrong inputs. */
public final class PromiseTest extends Checks {
    private PromiseTest() {
    }

    public static void main(String[] args) {
        newObject();
        feedAndEnd();
        planOfTokens();
        planOfLimits();
        planKeepsAndClears();
        change();
        pendingAndCancel();
        commit();
        refusedOrder();
        joinPairs();
        ringRefused();
        would();
        undo();
        sizeAtCountTotal();
        kindsOfViews();
        groups();
        movedAndCame();
        rings();
        differs();
        of();
        column();
        told();
        wrongRelations();
        finish("PromiseTest");
    }

    private static void newObject() {
        BagTree x = new BagTree();
        for (int what = 0; what <= 9; what++) {
            due("new told(" + what + ")", x.told(what), 0);
        }
        due("new size(0)", x.size(0), NONE);
        due("new change", x.change(0, 0, 0, 0, 0, 1), NONE);
        due("new undo()", x.undo(), NONE);
        due("new cancel()", x.cancel(), 0);
        due("new pending(NONE, 0)", x.pending(NONE, 0), 0);
        due("new plan()", x.plan(), 0);
    }

    private static void feedAndEnd() {
        BagTree x = new BagTree();
        for (int n = 1; n <= 39; n++) {
            due("feed " + n, x.feed(0, 0, 0), 24 * n);
        }
        due("feed beyond 936", x.feed(0, 0, 0), NONE);
        due("told(9) full", x.told(9), 936);
        due("end(937)", x.end(937), NONE);
        due("end(-1)", x.end(-1), NONE);
        due("end(least)", x.end(LEAST_INT), NONE);
        due("end(most)", x.end(MOST_INT), NONE);
        due("end(936)", x.end(936), 936);
        due("end(913)", x.end(913), 913);
        due("feed to 937", x.feed(0, 0, 0), NONE);
        due("told(9) is 913", x.told(9), 913);
        due("end(912)", x.end(912), 912);
        due("feed to 936", x.feed(0, 0, 0), 936);
        due("end(0)", x.end(0), 0);
        due("end(1) of none", x.end(1), NONE);
        // "table a " "2;\n     " "        ": the highest byte of each comes first
        due("feed a table", x.feed(0x7461626c65206120L, 0x323b0a2020202020L, 0x2020202020202020L), 24);
        due("plan of it", x.plan(), 1);
        due("its columns", x.of(0, 1), 2);
        x.feed(0x7461626c65206120L, 0x3120202020202020L, -1L);
        due("a byte of 255", x.plan(), -2 - (8 * 16 + 1));
    }

    private static void planOfTokens() {
        fine("", 0);
        fine(" \n ", 0);
        fine("table a 1;", 1);
        fine("table\na\n0004 ;\n", 1);
        fine("table abcdefgh 1;", 1);
        fine("table c 1;table cc 1;", 2);
        fine("table a 2;view v=select a where c0=c1 and c0<9999 and c1>0;", 2);
        fine("table a 2;view v=project a c0+1,c1-1,5,c0;", 2);
        fine("table a 2;view v=group a by c1,c0 sum c0;", 2);
        fine("table t 1; table selects 1;view tables = union t selects;", 3);
        faultAt("!tabl", 1);
        faultAt("table!", 1);
        faultAt("table  !", 1);
        faultAt("table a!", 1);
        faultAt("table a 1!", 1);
        faultAt("table a 1  \n!", 1);
        faultAt("table a 1;!;", 1);
        faultAt("table !abcdefghi 1;", 1);
        faultAt("table !a1 1;", 1);
        faultAt("table !A 1;", 1);
        faultAt("table a !12345;", 1);
        faultAt("table a !c1;", 1);
        faultAt("table a !0;", 2);
        faultAt("table a !5;", 2);
        faultAt("table a !9999;", 2);
        faultAt("table a!\t1;", 1);
        faultAt("table a !+1;", 1);
        faultAt("table a !;", 1);
        faultAt("table !c0 1;", 1);
        String[] words = "table view select where and project join on union minus distinct group by count sum least most ring with keep".split(" ");
        for (String word : words) {
            faultAt("table !" + word + " 1;", 1);
            faultAt("table a 1;view v = distinct !" + word + ";", 1);
        }
        faultAt("table a 1;view v !distinct a;", 1);
        faultAt("table a 1;view v = !count a;", 1);
        faultAt("table a 1;view v = !table a;", 1);
        faultAt("table a 1;view v = !view a;", 1);
        faultAt("table a 1;view v = !a;", 1);
        faultAt("table a 1;view v = distinct !b;", 3);
        faultAt("table a 1;view v = distinct !v;", 3);
        faultAt("table a 1;view !a = distinct a;", 3);
        faultAt("table a 1;table !a 9;", 3);
        faultAt("table a 1;view v = select a !c0 = 1;", 1);
        faultAt("table a 1;view v = select a where !1 = c0;", 1);
        faultAt("table a 1;view v = select a where c0 !+ 1;", 1);
        faultAt("table a 1;view v = select a where c0 = !a;", 1);
        faultAt("table a 1;view v = select a where c0 = !c1;", 2);
        faultAt("table a 1;view v = select a where !c4 = c1;", 1);
        faultAt("table a 1;view v = select a where c0 = 1 !, c0 = 1;", 1);
        faultAt("table a 1;view v = select a where c0 = 1 and!", 1);
        faultAt("table a 1;view v = project a !;", 1);
        faultAt("table a 1;view v = project a c0 + !c0;", 1);
        faultAt("table a 1;view v = project a 1 !+ 1;", 1);
        faultAt("table a 1;view v = project a c0,!;", 1);
        faultAt("table a 2;view v = project a c0,!c2;", 2);
        faultAt("table a 2;view v = join a a on c0 !< c1;", 1);
        faultAt("table a 2;table b 1;view v = join a b on c1 = !c1;", 2);
        faultAt("table a 1;table b 2;view v = join a b on !c1 = c1;", 2);
        faultAt("table a 2;view v = join a a !c0 = c1;", 1);
        faultAt("table a 1;view v = group a by c0!;", 1);
        faultAt("table a 2;view v = group a by c0 !c1 count;", 1);
        faultAt("table a 2;view v = group a by c0 sum!;", 1);
        faultAt("table a 2;view v = group a by c0 least !c2;", 2);
        faultAt("table a 2;view v = group a by c0 count !c1;", 1);
        faultAt("table a 2;view v = group a by c0,!c0 count;", 2);
        faultAt("table a 2;view v = group a by !count;", 1);
        faultAt("table a 1;view v = ring a !a on c0 = c0 keep c0;", 1);
        faultAt("table a 1;view v = ring a with a on c0 = c0 !, c0 = c0 keep c0;", 1);
        faultAt("table a 1;view v = ring a with a on c0 = !c1 keep c1;", 2);
        faultAt("table a 1;view v = ring a with a on c0 = c0 keep !c2;", 2);
        faultAt("table a 1;view v = ring a with a on c0 = c0 !c1;", 1);
        fine("table a 1;view v = ring a with a on c0 = c0 keep c1;", 2);
    }

    private static void planOfLimits() {
        fine(lines(16, 0), 16);
        fine(lines(1, 15), 16);
        faultAt(lines(16, 0) + "!table x", 4);
        faultAt(lines(1, 15) + "!view", 4);
        faultAt(lines(1, 15) + "!table x 1;", 4);
        faultAt(lines(1, 15) + "!x", 1);
        faultAt(lines(1, 1) + "!table", 6);
        String a = "table a 2;table b 4;table d 3;";
        faultAt(a + "view v = project a c0,c0,c0,c0,!c0;", 4);
        faultAt(a + "view v = project a c0,c0,c0,c0,!1;", 4);
        faultAt(a + "view v = project a c0,c0,c0,c0,!c2;", 2);
        faultAt(a + "view v = project a c0,c0,c0,c0,!a;", 1);
        fine(a + "view v = project a c0,c0,c0,c0;", 4);
        faultAt(a + "view v = join a a on c0=c0,c0=c0,c0=c0,c0=c0,!c0=c0;", 4);
        faultAt(a + "view v = join a a on c0=c0,c0=c0,c0=c0,c0=c0,!c2=c0;", 2);
        fine(a + "view v = join a a on c0=c0,c0=c0,c0=c0,c1=c0;", 4);
        String eight = "c0=0 and c0=0 and c0=0 and c0=0 and c0=0 and c0=0 and c0=0 and c0=0";
        fine(a + "view v = select a where " + eight + ";", 4);
        faultAt(a + "view v = select a where " + eight + " and !c0=0;", 4);
        faultAt(a + "view v = select a where " + eight + " and !c3=0;", 2);
        faultAt(a + "view v = select a where " + eight + " and !0=0;", 1);
        fine(a + "view v = group b by c3,c1,c0 count;", 4);
        faultAt(a + "view v = group b by c3,c1,c0,!c2 count;", 4);
        faultAt(a + "view v = group b by c3,c1,c0,!c1 count;", 2);
        fine(a + "view v = group a by c0 sum c0;", 4);
        faultAt(a + "view v = union a !b;", 5);
        faultAt(a + "view v = minus a !b;", 5);
        faultAt(a + "view v = minus a !x;", 3);
        fine(a + "view v = minus d d;", 4);
        faultAt(a + "view v = join d d on c0=c0!;", 5);
        faultAt(a + "view v = join d d on c0=c0,c1=c0!;", 5);
        faultAt(a + "view v = join d d on c0=c0 !and;", 1);
        fine(a + "view v = join d d on c0=c0,c0=c1;", 4);
        fine(a + "view v = join b b on c0=c0,c0=c1,c0=c2,c0=c3;", 4);
        faultAt(a + "view v = ring d with a on c0=c0 keep c0,c0,c0!;", 5);
        faultAt(a + "view v = ring a with a on c0=c0 keep c0!;", 5);
        faultAt(a + "view v = ring a with a on c0=c0 keep c0,c1,c2!;", 5);
        faultAt(a + "view v = ring a with a on c0=c0 keep c0,c1,c2,c3,!c0;", 4);
        fine(a + "view v = ring a with a on c0=c0 keep c3,7;", 4);
    }

    private static void planKeepsAndClears() {
        BagTree x = planned("table a 1;view v = distinct a;");
        change(x, 0, 5, 0, 2);
        x.commit();
        change(x, 0, 6, 0, 1);
        due("a fault", plan(x, "table b 2;view"), -2 - (8 * 14 + 1));
        due("the tape is empty", x.told(9), 0);
        due("columns stay", x.of(0, 1), 1);
        due("its name stays", x.of(0, 7), 1);
        dueText("view stays", bag(x, 1), "5:1");
        due("moved stays", x.moved(1), 1);
        due("batch stays", x.told(5), 1);
        due("can be undone", x.told(4), 1);
        due("done stays", x.told(2), 1);
        String blanks = " ".repeat(900);
        feed(x, blanks + " ");
        due("901 bytes", x.plan(), NONE);
        due("the tape is empty behind 901", x.told(9), 0);
        due("nothing to cut behind 901", x.end(1), NONE);
        due("relations stay behind 901", x.told(0), 1);
        due("views stay behind 901", x.told(1), 1);
        dueText("view stays behind 901", bag(x, 1), "5:1");
        due("moved stays behind 901", x.moved(1), 1);
        due("batch stays behind 901", x.told(5), 1);
        due("can be undone behind 901", x.told(4), 1);
        due("done stays behind 901", x.told(2), 1);
        due("feed behind 901", x.feed(0, 0, 0), 24);
        for (int k = 2; k <= 39; k++) {
            due("feed up to " + 24 * k, x.feed(0, 0, 0), 24 * k);
        }
        due("feed beyond 936", x.feed(0, 0, 0), NONE);
        due("936 bytes", x.plan(), NONE);
        due("the tape is empty behind 936", x.told(9), 0);
        feed(x, blanks);
        due("900 bytes", x.plan(), 0);
        due("the tape is empty behind 900", x.told(9), 0);
        due("no relation", x.size(0), NONE);
        due("no changes", x.told(5), 0);
        due("none undone", x.undo(), NONE);

        BagTree y = planned("table a 1;view v = distinct a;");
        change(y, 0, 5, 0, 2);
        y.commit();
        change(y, 0, 5, 0, -3);
        y.commit();
        change(y, 0, 6, 0, 1);
        due("a new plan", plan(y, "table a 1;view v = distinct a;"), 2);
        for (int what = 2; what <= 9; what++) {
            due("told(" + what + ") of a new plan", y.told(what), 0);
        }
        due("size of a new plan", y.size(0), 0);
        due("moved of a new plan", y.moved(0), 0);
        due("came of a new plan", y.came(1), 0);
        due("undo of a new plan", y.undo(), NONE);
        due("commit of a new plan", y.commit(), 0);
    }

    private static void change() {
        BagTree x = planned("table a 1;table b 4;view v = distinct a;");
        due("n is 0", x.change(0, 1, 0, 0, 0, 0), NONE);
        due("n is 10", x.change(0, 1, 0, 0, 0, 10), NONE);
        due("n is -10", x.change(0, 1, 0, 0, 0, -10), NONE);
        due("n is least", x.change(0, 1, 0, 0, 0, LEAST_INT), NONE);
        due("no table 2", x.change(2, 1, 0, 0, 0, 1), NONE);
        due("no table -1", x.change(-1, 1, 0, 0, 0, 1), NONE);
        due("first", x.change(0, 1, 5, 6, 7, 9), 1);
        due("like", x.change(0, 1, 8, 8, 8, 9), 1);
        due("together", x.pending(0, 5), 18);
        due("unlike", x.change(0, 2, 5, 6, 7, -9), 2);
        due("other table", x.change(1, 1, 5, 6, 7, 1), 3);
        due("other last column", x.change(1, 1, 5, 6, 8, 1), 4);
        due("none any more", x.change(1, 1, 5, 6, 7, -1), 3);
        x.cancel();
        for (int k = 0; k < 40; k++) {
            due("change " + k, x.change(k % 2, k, 0, 0, 0, 1), k + 1);
        }
        due("a 41st", x.change(0, 99, 0, 0, 0, 1), NONE);
        due("one of the 40", x.change(0, 2, 0, 0, 0, 1), 40);
        due("one is none", x.change(0, 2, 0, 0, 0, -2), 39);
        due("a 40th", x.change(0, 99, 0, 0, 0, 1), 40);
        due("all 40 are done", x.commit(), 20);
    }

    private static void pendingAndCancel() {
        BagTree x = planned("table a 2;table b 1;");
        x.change(1, 3, 0, 0, 0, 4);
        x.change(0, 5, -1, 0, 0, 1);
        x.change(0, -5, 9, 0, 0, -2);
        x.change(0, 5, LEAST_INT, 0, 0, 3);
        due("how many", x.pending(NONE, 0), 4);
        due("how many, whatever", x.pending(NONE, 77), 4);
        int[][] want = {{0, -5, 9, -2}, {0, 5, LEAST_INT, 3}, {0, 5, -1, 1}};
        for (int i = 0; i < 3; i++) {
            due("pending table", x.pending(i, 0), want[i][0]);
            due("pending c0", x.pending(i, 1), want[i][1]);
            due("pending c1", x.pending(i, 2), want[i][2]);
            due("pending n", x.pending(i, 5), want[i][3]);
        }
        due("pending(3, 0)", x.pending(3, 0), 1);
        due("pending(3, 1)", x.pending(3, 1), 3);
        due("pending(3, 5)", x.pending(3, 5), 4);
        dueNoSuch("pending(3, 2)", () -> x.pending(3, 2));
        dueNoSuch("pending(0, 3)", () -> x.pending(0, 3));
        dueNoSuch("pending(0, 4)", () -> x.pending(0, 4));
        dueNoSuch("pending(0, 6)", () -> x.pending(0, 6));
        dueNoSuch("pending(0, -1)", () -> x.pending(0, -1));
        dueNoSuch("pending(4, 0)", () -> x.pending(4, 0));
        dueNoSuch("pending(-2, 0)", () -> x.pending(-2, 0));
        dueNoSuch("pending(most, least)", () -> x.pending(MOST_INT, LEAST_INT));
        due("cancel()", x.cancel(), 4);
        due("cancel() again", x.cancel(), 0);
        due("commit() of none", x.commit(), 0);
        due("size", x.size(0), 0);
    }

    private static void commit() {
        BagTree x = planned("table a 1;view v = distinct a;view w = project v c0;");
        change(x, 0, 1, 0, 3);
        change(x, 0, 2, 0, 1);
        due("commit", x.commit(), 4);
        change(x, 0, 1, 0, -1);
        due("a count alone", x.commit(), 0);
        due("moved in the table", x.moved(0), 1);
        change(x, 0, 1, 0, -3);
        due("below 0", x.commit(), -2);
        dueText("as it was", bag(x, 0), "1:2 2:1");
        due("the batch is empty", x.cancel(), 0);
        due("refused", x.told(3), 1);
        change(x, 0, 1, 0, -2);
        change(x, 0, 9, 0, 1);
        due("commit again", x.commit(), 4);
        dueText("table", bag(x, 0), "2:1 9:1");
        dueText("view", bag(x, 2), "2:1 9:1");
        change(x, 0, 7, 0, -1);
        due("below 0 of none", x.commit(), -2);
    }

    private static void refusedOrder() {
        BagTree x = planned("table a 1;table b 1;");
        fill(x, 0, 0, 120);
        due("120 tuples", x.size(0), 120);
        change(x, 0, 500, 0, 1);
        due("a 121st", x.commit(), -3);
        change(x, 0, -500, 0, 1);
        change(x, 0, 119, 0, -1);
        due("one for another", x.commit(), 0);
        due("120 again", x.size(0), 120);
        due("the first", x.at(0, 0, 0), -500);
        change(x, 0, 500, 0, 1);
        change(x, 1, 1, 0, -1);
        due("below 0 is first of all", x.commit(), -2);

        BagTree y = planned("table a 1;table b 1;view u = union a b;view m = minus a b;");
        fill(y, 0, 0, 80);
        fill(y, 1, 40, 120);
        y.commit();
        due("a union of 120", y.size(2), 120);
        due("a minus of 80", y.size(3), 80);
        change(y, 1, 120, 0, 1);
        due("a union of 121", y.commit(), -3);
        due("still 120", y.size(2), 120);
        change(y, 1, -1, 0, 1);
        change(y, 1, 100, 0, -1);
        due("still a union of 120", y.commit(), 4);

        // a ring of too many rounds ahead of a view of too many tuples, and behind it
        String ring = "view r = ring a with b on c0 = c1 keep c0 + 1;";
        String union = "view u = union d e;";
        String tables = "table a 1;table b 2;table d 1;table e 1;";
        for (int k = 0; k < 2; k++) {
            BagTree z = planned(tables + (k == 0 ? ring + union : union + ring));
            fill(z, 2, 0, 80);
            fill(z, 3, 100, 140);
            z.commit();
            due("120 of the union", z.size(k == 0 ? 5 : 4), 120);
            for (int i = 0; i < 38; i++) {
                change(z, 1, 0, i, 1);
            }
            z.commit();
            for (int i = 38; i < 60; i++) {
                change(z, 1, 0, i, 1);
            }
            change(z, 0, 0, 0, 1);
            change(z, 3, 999, 0, 1);
            due("what would be", z.would(0), k == 0 ? -4 : -3);
            due("what is first", z.commit(), k == 0 ? -4 : -3);
        }
    }

    /** 256 * 256 * 65536 is 0: pairs without tuples, whose number alone is refused. */
    private static void joinPairs() {
        BagTree x = planned("table t 2;view p = join t t on c0=c0,c1=c1;view q = join p p on c0=c0,c1=c1;"
                + "view s = join q q on c0=c0,c1=c1;view j = join s s on c0=c0;");
        for (int k = 0; k < 38; k++) {
            x.change(0, 7, k, 0, 0, 8);
            x.change(0, 7, k, 0, 0, 8);
        }
        due("38 * 38 pairs", x.commit(), 3 * 38 - 38);
        due("16 * 16", x.count(1, 7, 0, 0, 0), 256);
        due("256 * 256", x.count(2, 7, 0, 0, 0), 65536);
        due("65536 * 65536 is none", x.size(3), 0);
        due("none of none", x.size(4), 0);

        BagTree y = planned("table t 2;view p = join t t on c0=c0,c1=c1;view q = join p p on c0=c0,c1=c1;"
                + "view j = join q q on c0=c0;");
        for (int k = 0; k < 38; k++) {
            y.change(0, 7, k, 0, 0, 8);
            y.change(0, 7, k, 0, 0, 8);
        }
        due("1444 pairs of 0", y.commit(), 76);
        y.change(0, 8, 1, 0, 0, 1);
        due("1445 pairs", y.commit(), 3);
        dueText("one alone", bag(y, 3), "8,1,1:1");
        y.change(0, 7, 50, 0, 0, 8);
        y.change(0, 7, 50, 0, 0, 8);
        due("1522 pairs", y.commit(), -3);
        due("38 and 1", y.size(0), 39);
        for (int k = 0; k < 7; k++) {
            for (int i = 0; i < 5; i++) {
                y.change(0, 20 + k, i, 0, 0, 8);
                y.change(0, 20 + k, i, 0, 0, 8);
            }
        }
        y.cancel();
        // 1444 + 1 + 55 = 1500
        for (int k = 0; k < 7; k++) {
            y.change(0, 30, k, 0, 0, 8);
            y.change(0, 30, k, 0, 0, 8);
        }
        for (int k = 0; k < 6; k++) {
            y.change(0, 31 + k, 0, 0, 0, 8);
            y.change(0, 31 + k, 0, 0, 0, 8);
        }
        due("1500 pairs", y.would(3), 1);
        due("1500 pairs done", y.commit(), 26);
        y.change(0, 99, 0, 0, 0, 8);
        y.change(0, 99, 0, 0, 0, 8);
        due("1501 pairs", y.commit(), -3);
    }

    private static void ringRefused() {
        BagTree x = planned("table a 1;table b 2;view r = ring a with b on c0 = c0 keep c2;");
        for (int k = 0; k < 40; k++) {
            change(x, 1, k, k + 1, 1);
        }
        due("a way of 40", x.commit(), 0);
        change(x, 0, 0, 0, 1);
        due("40 rounds", x.commit(), 41);
        due("rounds", x.rounds(2), 40);
        due("round of the last", x.round(2, 40, 0, 0, 0), 40);
        change(x, 1, 40, 0, 1);
        due("back to the first", x.commit(), 0);
        change(x, 1, 40, 41, 1);
        due("41 rounds", x.commit(), -4);
        due("rounds as they were", x.rounds(2), 40);
        change(x, 1, 40, 41, 1);
        change(x, 0, 40, 0, 1);
        due("41 is nearer now", x.commit(), 1);
        due("its round", x.round(2, 41, 0, 0, 0), 1);
        due("39 rounds", x.rounds(2), 39);

        // 3 a round: 120 tuples with round 39, 123 with round 40
        BagTree y = planned("table a 2;table b 1;view r = ring a with b on c0 = c0 keep c0, c1 + 3;");
        change(y, 1, 1, 0, 1);
        for (int k = 0; k < 3; k++) {
            change(y, 0, 1, k, 1);
        }
        due("too many tuples ahead of too many rounds", y.would(2), -3);
        due("too many tuples", y.commit(), -3);
        change(y, 1, 1, 0, 1);
        change(y, 0, 1, 0, 1);
        change(y, 0, 1, 1, 1);
        due("too many rounds", y.commit(), -4);

        // 120 tuples with round 40: the next one is of a 41st round and a 121st at once
        BagTree z = planned("table a 1;table b 2;view r = ring a with b on c0 = c0 keep c2;");
        for (int k = 0; k < 40; k++) {
            change(z, 1, k, k + 1, 1);
        }
        z.commit();
        for (int k = 0; k < 40; k++) {
            change(z, 0, 1000 + k, 0, 1);
        }
        z.commit();
        for (int k = 40; k < 79; k++) {
            change(z, 0, 1000 + k, 0, 1);
        }
        change(z, 0, 0, 0, 1);
        due("120 tuples, 40 rounds", z.commit(), 80);
        due("120 tuples", z.size(2), 120);
        change(z, 1, 40, 41, 1);
        due("a 41st round is what comes first", z.commit(), -4);
        change(z, 1, 39, 41, 1);
        due("a 121st of round 40", z.commit(), -3);
        due("as it was", z.size(2), 120);
    }

    private static void would() {
        BagTree x = planned("table a 1;view v = distinct a;");
        due("would of nothing", x.would(1), 0);
        change(x, 0, 1, 0, 1);
        change(x, 0, 2, 0, 1);
        due("would(0)", x.would(0), 2);
        due("would(1)", x.would(1), 2);
        due("nothing is done", x.size(1), 0);
        due("the batch stays", x.told(5), 2);
        due("nothing moved", x.moved(1), 0);
        change(x, 0, 3, 0, -1);
        due("below 0", x.would(1), -2);
        due("not refused", x.told(3), 0);
        due("the batch stays", x.told(5), 3);
        due("would(2)", x.would(2), NONE);
        due("would(-1)", x.would(-1), NONE);
    }

    private static void undo() {
        BagTree x = planned("table a 1;view v = project a c0 + 1;");
        for (int k = 0; k < 10; k++) {
            change(x, 0, k, 0, 1);
            x.commit();
        }
        due("8 can be undone", x.told(4), 8);
        change(x, 0, 77, 0, 1);
        for (int k = 9; k >= 2; k--) {
            due("undo of " + k, x.undo(), k - 2);
            due("size", x.size(1), k);
            dueText("moved", moves(x, 1), (k + 1) + ":-1");
            due("came", x.came(1), 1);
        }
        due("no more", x.undo(), NONE);
        dueText("two stay", bag(x, 1), "1:1 2:1");
        due("the batch stays", x.told(5), 1);
        due("done", x.told(2), 10);
        due("commit behind it", x.commit(), 1);
        due("one can be undone", x.told(4), 1);
        change(x, 0, 0, 0, -5);
        x.commit();
        due("refused ones can't be", x.told(4), 1);
        due("undo", x.undo(), 0);
        x.commit();
        due("undo of an empty one", x.undo(), 0);
        due("nothing moved", x.told(7), 0);

        BagTree y = planned("table a 1;");
        fill(y, 0, 0, 120);
        for (int k = 0; k < 20; k++) {
            change(y, 0, 100 + k, 0, -1);
            change(y, 0, -1 - k, 0, 1);
        }
        y.commit();
        due("undo of a full table", y.undo(), 3);
        due("as ahead of it", y.at(0, 119, 0), 119);
        due("as ahead of it", y.size(0), 120);
        due("all 40 moved", y.moved(0), 40);
    }

    private static void sizeAtCountTotal() {
        BagTree x = planned("table a 2;view m = minus a a;view n = project a 3;");
        x.change(0, 5, LEAST_INT, 0, 0, 2);
        x.change(0, 5, MOST_INT, 0, 0, 3);
        x.change(0, LEAST_INT, 0, 0, 0, 4);
        x.commit();
        dueText("in order", bag(x, 0), LEAST_INT + ",0:4 5," + LEAST_INT + ":2 5," + MOST_INT + ":3");
        due("size", x.size(0), 3);
        due("size of none", x.size(1), 0);
        due("size(3)", x.size(3), NONE);
        due("size(-1)", x.size(-1), NONE);
        due("count", x.count(0, 5, MOST_INT, 8, 9), 3);
        due("count of none", x.count(0, 5, 0, 0, 0), 0);
        due("count of one column", x.count(2, 3, 8, 8, 8), 9);
        due("total", x.total(0), 9);
        due("total of none", x.total(1), 0);
        dueNoSuch("at(0, 3, 0)", () -> x.at(0, 3, 0));
        dueNoSuch("at(0, -1, 0)", () -> x.at(0, -1, 0));
        dueNoSuch("at(0, 0, 2)", () -> x.at(0, 0, 2));
        dueNoSuch("at(0, 0, 3)", () -> x.at(0, 0, 3));
        dueNoSuch("at(0, 0, 5)", () -> x.at(0, 0, 5));
        dueNoSuch("at(0, 0, -1)", () -> x.at(0, 0, -1));
        dueNoSuch("at(1, 0, 4)", () -> x.at(1, 0, 4));
        dueNoSuch("at(3, 0, 0)", () -> x.at(3, 0, 0));
        dueNoSuch("at(0, most, 0)", () -> x.at(0, MOST_INT, 0));
        dueNoSuch("count(3, ..)", () -> x.count(3, 0, 0, 0, 0));
        dueNoSuch("count(-1, ..)", () -> x.count(-1, 0, 0, 0, 0));
        dueNoSuch("total(3)", () -> x.total(3));
        dueNoSuch("total(-1)", () -> x.total(-1));
    }

    private static void kindsOfViews() {
        BagTree x = planned("table a 2;table b 2;"
                + "view s = select a where c0 < c1 and c1 > 2;view e = select a where c0 = c1;"
                + "view p = project a c1 - 1, 7, c0 + 2;view q = project a 0;"
                + "view j = join a b on c1 = c0;view k = join a b on c0 = c1, c1 = c0;"
                + "view u = union a b;view m = minus a b;view d = distinct m;view o = minus a a;");
        change(x, 0, 1, 2, 2);
        change(x, 0, 1, 3, 1);
        change(x, 0, 2, 2, 3);
        change(x, 0, 4, 3, 1);
        change(x, 1, 2, 5, 2);
        change(x, 1, 2, 6, 1);
        change(x, 1, 1, 2, 5);
        change(x, 1, 2, 1, 1);
        x.commit();
        dueText("select", bag(x, 2), "1,3:1");
        dueText("select =", bag(x, 3), "2,2:3");
        dueText("project", bag(x, 4), "1,7,3:2 1,7,4:3 2,7,3:1 2,7,6:1");
        dueText("project to one", bag(x, 5), "0:7");
        dueText("join", bag(x, 6), "1,2,1:2 1,2,5:4 1,2,6:2 2,2,1:3 2,2,5:6 2,2,6:3");
        dueText("join of two", bag(x, 7), "1,2:2");
        dueText("union", bag(x, 8), "1,2:7 1,3:1 2,1:1 2,2:3 2,5:2 2,6:1 4,3:1");
        dueText("minus", bag(x, 9), "1,2:-3 1,3:1 2,1:-1 2,2:3 2,5:-2 2,6:-1 4,3:1");
        dueText("distinct", bag(x, 10), "1,3:1 2,2:1 4,3:1");
        dueText("minus of itself", bag(x, 11), "");

        BagTree w = planned("table a 2;view l = select a where c0 < c1;view g = select a where c0 > c1;"
                + "view m = select a where c0 < 2;view h = select a where c0 > 2;view e = select a where c0 = 2;"
                + "view n = select a where c0 = c0 and c1 = 3;");
        change(w, 0, -1, -2, 1);
        change(w, 0, 1, 2, 1);
        change(w, 0, 2, 2, 1);
        change(w, 0, 3, 3, 1);
        w.commit();
        dueText("< a column", bag(w, 1), "1,2:1");
        dueText("> a column", bag(w, 2), "-1,-2:1");
        dueText("< a number", bag(w, 3), "-1,-2:1 1,2:1");
        dueText("> a number", bag(w, 4), "3,3:1");
        dueText("= a number", bag(w, 5), "2,2:1");
        dueText("two tests", bag(w, 6), "3,3:1");

        BagTree y = planned("table a 1;table b 1;view p = project a c0 + 1;view q = project a c0 - 9999;"
                + "view m = minus a b;view n = project m 1;view j = join m b on c0 = c0;");
        change(y, 0, MOST_INT, 0, 1);
        change(y, 0, LEAST_INT, 0, 1);
        change(y, 1, 5, 0, 2);
        y.commit();
        dueText("wrapping", bag(y, 2), LEAST_INT + ":1 " + (LEAST_INT + 1) + ":1");
        dueText("wrapping down", bag(y, 3), (MOST_INT - 9999) + ":1 " + (LEAST_INT - 9999) + ":1");
        dueText("of 0 none", bag(y, 5), "");
        dueText("join of a count below 0", bag(y, 6), "5:-4");
    }

    private static void groups() {
        BagTree x = planned("table a 3;table b 3;view m = minus a b;"
                + "view n = group m by c0 count;view s = group m by c0 sum c2;view l = group m by c0 least c2;"
                + "view h = group m by c0 most c2;view t = group m by c1, c0 count;view r = group m by c0 sum c0;");
        x.change(0, 1, 1, 5, 0, 2);
        x.change(0, 1, 2, -5, 0, 1);
        x.change(1, 1, 1, 9, 0, 3);
        x.change(1, 1, 1, -9, 0, 1);
        x.change(1, 2, 1, 4, 0, 2);
        x.change(0, 3, 1, 4, 0, 2);
        x.change(1, 3, 1, 8, 0, 2);
        x.commit();
        dueText("count", bag(x, 3), "1,-1:1 2,-2:1 3,0:1");
        dueText("sum", bag(x, 4), "1,-13:1 2,-8:1 3,-8:1");
        dueText("least", bag(x, 5), "1,-5:1 2,0:1 3,4:1");
        dueText("most", bag(x, 6), "1,5:1 2,0:1 3,4:1");
        dueText("by two", bag(x, 7), "1,1,-2:1 1,2,-2:1 1,3,0:1 2,1,1:1");
        dueText("sum of its own", bag(x, 8), "1,-1:1 2,-4:1 3,0:1");
        x.change(0, 2, 1, 4, 0, 2);
        x.commit();
        dueText("a group of none is none", bag(x, 3), "1,-1:1 3,0:1");

        BagTree y = planned("table a 2;view s = group a by c0 sum c1;view l = group a by c0 least c1;view h = group a by c0 most c1;");
        change(y, 0, 1, MOST_INT, 2);
        change(y, 0, 2, LEAST_INT, 1);
        change(y, 0, 2, MOST_INT, 1);
        y.commit();
        dueText("a sum that wraps", bag(y, 1), "1,-2:1 2,-1:1");
        dueText("least ints", bag(y, 2), "1," + MOST_INT + ":1 2," + LEAST_INT + ":1");
        dueText("most ints", bag(y, 3), "1," + MOST_INT + ":1 2," + MOST_INT + ":1");
    }

    private static void movedAndCame() {
        BagTree x = planned("table a 2;table b 2;view u = union a b;view j = join a a on c0 = c0;view d = distinct u;");
        change(x, 0, 1, 2, 2);
        change(x, 1, 3, 4, 1);
        change(x, 1, 1, 2, 1);
        due("commit", x.commit(), 2 + 1 + 2);
        dueText("moved a", moves(x, 0), "1,2:2");
        dueText("moved u", moves(x, 2), "1,2:3 3,4:1");
        due("came to a union", x.came(2), 3);
        due("came twice", x.came(3), 2);
        due("came to distinct", x.came(4), 2);
        change(x, 0, 1, 2, -1);
        change(x, 1, 3, 4, -1);
        change(x, 0, 0, 9, 1);
        due("commit", x.commit(), 3 + 2 + 2);
        dueText("moved u", moves(x, 2), "0,9:1 1,2:-1 3,4:-1");
        dueText("moved j", moves(x, 3), "0,9,9:1 1,2,2:-3");
        dueText("moved d", moves(x, 4), "0,9:1 3,4:-1");
        change(x, 0, 1, 2, -9);
        x.commit();
        dueText("a refused one moves nothing", moves(x, 2), "0,9:1 1,2:-1 3,4:-1");
        due("undo", x.undo(), 1);
        dueText("undone u", moves(x, 2), "0,9:-1 1,2:1 3,4:1");
        due("came of the undone", x.came(2), 3);
        due("moved(5)", x.moved(5), NONE);
        due("moved(-1)", x.moved(-1), NONE);
        due("came(5)", x.came(5), NONE);
        due("came(-1)", x.came(-1), NONE);
        due("came to a table", x.came(0), NONE);
        dueNoSuch("movedAt(2, 3, 0)", () -> x.movedAt(2, 3, 0));
        dueNoSuch("movedAt(2, -1, 0)", () -> x.movedAt(2, -1, 0));
        dueNoSuch("movedAt(2, 0, 2)", () -> x.movedAt(2, 0, 2));
        dueNoSuch("movedAt(2, 0, 5)", () -> x.movedAt(2, 0, 5));
        dueNoSuch("movedAt(2, 0, -1)", () -> x.movedAt(2, 0, -1));
        dueNoSuch("movedAt(5, 0, 0)", () -> x.movedAt(5, 0, 0));
        dueNoSuch("movedAt(-1, 0, 0)", () -> x.movedAt(-1, 0, 0));
        x.commit();
        due("an empty batch moves nothing", x.moved(2), 0);

        movedOf240();
    }

    /** One change of b moves every tuple of a view of 120 to another. */
    private static void movedOf240() {
        BagTree x = planned("table a 1;table b 2;view n = project a c0, 0;view j = join n b on c1 = c0;");
        fill(x, 0, 0, 120);
        change(x, 1, 0, 5, 1);
        x.commit();
        due("120", x.size(3), 120);
        change(x, 1, 0, 5, -1);
        change(x, 1, 0, 3, 1);
        due("240 moved", x.commit(), 240);
        due("moved", x.moved(3), 240);
        due("first", x.movedAt(3, 0, 2), 3);
        due("first came", x.movedAt(3, 0, 4), 1);
        due("last", x.movedAt(3, 239, 2), 5);
        due("last went", x.movedAt(3, 239, 4), -1);
        due("undo", x.undo() >= 0 ? 1 : 0, 1);
        due("back", x.movedAt(3, 239, 4), 1);
    }

    private static void rings() {
        BagTree x = planned("table e 2;table f 2;view m = minus e f;view r = ring m with m on c1 = c0 keep c0, c3;"
                + "view w = ring e with f on c0 = c1 keep c2 + 1, 7;");
        change(x, 0, 1, 2, 5);
        change(x, 0, 2, 3, 1);
        change(x, 0, 3, 1, 1);
        change(x, 1, 3, 4, 1);
        x.commit();
        dueText("ways", bag(x, 3), "1,1:1 1,2:1 1,3:1 2,1:1 2,2:1 2,3:1 3,1:1 3,2:1 3,3:1");
        due("round 0", x.round(3, 1, 2, 9, 9), 0);
        due("round 1", x.round(3, 1, 3, 9, 9), 1);
        due("round 2", x.round(3, 1, 1, 9, 9), 2);
        due("a count below 0 is none", x.round(3, 3, 4, 0, 0), NONE);
        due("rounds", x.rounds(3), 2);
        due("no ring", x.round(0, 1, 2, 0, 0), NONE);
        due("no ring", x.round(2, 1, 2, 0, 0), NONE);
        due("round(5, ..)", x.round(5, 1, 2, 0, 0), NONE);
        due("round(-1, ..)", x.round(-1, 1, 2, 0, 0), NONE);
        due("rounds(2)", x.rounds(2), NONE);
        due("rounds(5)", x.rounds(5), NONE);
        due("rounds(-1)", x.rounds(-1), NONE);
        dueText("no pair", bag(x, 4), "1,2:1 2,3:1 3,1:1");
        due("rounds of no pair", x.rounds(4), 0);
        change(x, 1, 9, 3, 2);
        x.commit();
        dueText("of b too", bag(x, 4), "1,2:1 2,3:1 3,1:1 10,7:1");
        due("its round", x.round(4, 10, 7, 0, 0), 1);
        due("its rounds", x.rounds(4), 1);
        x.undo();
        due("rounds undone", x.rounds(4), 0);
        due("round undone", x.round(4, 10, 7, 0, 0), NONE);
        change(x, 0, 3, 1, -1);
        x.commit();
        dueText("ways without it", bag(x, 3), "1,2:1 1,3:1 2,3:1");
        due("rounds without it", x.rounds(3), 1);
        BagTree y = planned("table e 2;view r = ring e with e on c1 = c0 keep c0, c3;");
        due("rounds of nothing", y.rounds(1), 0);
        due("round of nothing", y.round(1, 0, 0, 0, 0), NONE);
    }

    private static void differs() {
        BagTree x = planned("table a 2;view d = distinct a;view r = ring a with d on c1 = c0 keep c0, c3;view g = group r by c0 count;");
        change(x, 0, 1, 2, 1);
        change(x, 0, 2, 3, 1);
        x.commit();
        change(x, 0, 5, 6, 1);
        for (int r = 0; r < 4; r++) {
            due("differs(" + r + ")", x.differs(r), 0);
        }
        due("differs(4)", x.differs(4), NONE);
        due("differs(-1)", x.differs(-1), NONE);
        dueText("all stays", bag(x, 3), "1,2:1 2,1:1");
        due("the batch stays", x.told(5), 1);
        due("moved stays", x.moved(3), 2);
    }

    private static void of() {
        BagTree x = planned("table ab 3;table z 1;view s = select ab where c0 = 1;view pqrstuvw = project s c0;"
                + "view j = join pqrstuvw z on c0 = c0;view u = union z j;view m = minus u u;view d = distinct z;"
                + "view g = group ab by c0, c1 most c2;view r = ring j with z on c0 = c0 keep c1;");
        int[][] want = {
            {0, 3, NONE, NONE, 0, 1 << 2 | 1 << 3 | 1 << 4 | 1 << 5 | 1 << 6 | 1 << 8 | 1 << 9, 0, 1, 2},
            {0, 1, NONE, NONE, 0, 1 << 4 | 1 << 5 | 1 << 6 | 1 << 7 | 1 << 9, 0, 26, 26},
            {1, 3, 0, NONE, 1, 1 << 3 | 1 << 4 | 1 << 5 | 1 << 6 | 1 << 9, 1, 19, 19},
            {2, 1, 2, NONE, 5, 1 << 4 | 1 << 5 | 1 << 6 | 1 << 9, 2, 16, 23},
            {3, 1, 3, 1, 15, 1 << 5 | 1 << 6 | 1 << 9, 3, 10, 10},
            {4, 1, 1, 4, 31, 1 << 6, 4, 21, 21},
            {5, 1, 5, 5, 63, 0, 5, 13, 13},
            {6, 1, 1, NONE, 2, 0, 1, 4, 4},
            {7, 3, 0, NONE, 1, 0, 1, 7, 7},
            {8, 1, 4, 1, 31, 0, 4, 18, 18},
        };
        for (int r = 0; r < want.length; r++) {
            for (int what = 0; what <= 8; what++) {
                due("of(" + r + ", " + what + ")", x.of(r, what), want[r][what]);
            }
            due("of(" + r + ", 9)", x.of(r, 9), NONE);
            due("of(" + r + ", -1)", x.of(r, -1), NONE);
        }
        due("of(10, 0)", x.of(10, 0), NONE);
        due("of(-1, 0)", x.of(-1, 0), NONE);
        due("of(least, least)", x.of(LEAST_INT, LEAST_INT), NONE);
    }

    private static void column() {
        BagTree x = planned("table a 2;view d = distinct a;");
        due("unlike ones of none", x.column(0, 1, 2), 0);
        dueNoSuch("column(0, 0, 0) of none", () -> x.column(0, 0, 0));
        dueNoSuch("column(1, 1, 1) of none", () -> x.column(1, 1, 1));
        change(x, 0, 1, 9, 1);
        change(x, 0, 1, -9, 4);
        change(x, 0, 2, 9, 1);
        change(x, 0, 3, LEAST_INT, 1);
        x.commit();
        due("least", x.column(1, 0, 0), 1);
        due("greatest", x.column(1, 0, 1), 3);
        due("unlike", x.column(1, 0, 2), 3);
        due("least c1", x.column(1, 1, 0), LEAST_INT);
        due("greatest c1", x.column(1, 1, 1), 9);
        due("unlike c1", x.column(1, 1, 2), 3);
        dueNoSuch("column(1, 2, 2)", () -> x.column(1, 2, 2));
        dueNoSuch("column(1, -1, 2)", () -> x.column(1, -1, 2));
        dueNoSuch("column(1, 0, 3)", () -> x.column(1, 0, 3));
        dueNoSuch("column(1, 0, -1)", () -> x.column(1, 0, -1));
        dueNoSuch("column(2, 0, 0)", () -> x.column(2, 0, 0));
        dueNoSuch("column(-1, 0, 0)", () -> x.column(-1, 0, 0));
    }

    private static void told() {
        BagTree x = planned("table a 1;table b 1;view u = union a b;view j = join a a on c0 = c0;view d = distinct u;");
        change(x, 0, 1, 0, 1);
        change(x, 1, 2, 0, 1);
        x.commit();
        change(x, 0, 3, 0, 1);
        x.commit();
        change(x, 0, 3, 0, -2);
        x.commit();
        change(x, 0, 4, 0, 1);
        change(x, 0, 5, 0, 1);
        x.feed(0, 0, 0);
        int[] want = {2, 3, 2, 1, 2, 2, 3 + 2 + 3, 3, 1 + 2 + 1, 24};
        for (int what = 0; what < want.length; what++) {
            due("told(" + what + ")", x.told(what), want[what]);
        }
        due("told(10)", x.told(10), NONE);
        due("told(-1)", x.told(-1), NONE);
        x.undo();
        due("done stays behind an undo", x.told(2), 2);
        due("can be undone", x.told(4), 1);
        due("moved by the undo", x.told(7), 3);
        due("came by the undo", x.told(8), 4);
        due("tuples", x.told(6), 2 + 1 + 2);
    }

    private static void wrongRelations() {
        BagTree x = planned(lines(8, 8));
        int[] wrong = {16, 17, 1000, MOST_INT, -1, -2, LEAST_INT};
        for (int r : wrong) {
            due("would", x.would(r), NONE);
            due("size", x.size(r), NONE);
            due("moved", x.moved(r), NONE);
            due("came", x.came(r), NONE);
            due("round", x.round(r, 0, 0, 0, 0), NONE);
            due("rounds", x.rounds(r), NONE);
            due("differs", x.differs(r), NONE);
            due("of", x.of(r, 1), NONE);
            due("change", x.change(r, 0, 0, 0, 0, 1), NONE);
            dueNoSuch("at", () -> x.at(r, 0, 0));
            dueNoSuch("count", () -> x.count(r, 0, 0, 0, 0));
            dueNoSuch("total", () -> x.total(r));
            dueNoSuch("movedAt", () -> x.movedAt(r, 0, 0));
            dueNoSuch("column", () -> x.column(r, 0, 2));
        }
        due("change of a view", x.change(8, 0, 0, 0, 0, 1), NONE);
        due("NONE", NONE, -1);
    }
}
