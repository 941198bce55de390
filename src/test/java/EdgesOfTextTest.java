/** Promises 1 to 4: each sentence that names an edge of the tape, of the tokens, lines and faults has its own test. */
public final class EdgesOfTextTest extends Checks {
    private static final String[] WORDS = ("table view select where and project join on union minus distinct"
            + " group by count sum least most ring with keep").split(" ");
    private static final String EIGHT_TESTS =
            "c0=0 and c0<1 and c0>2 and c1=3 and c1<4 and c1>5 and c0=c1 and c1<c0";

    private EdgesOfTextTest() {
    }

    public static void main(String[] args) {
        runByPromises(EdgesOfTextTest.class, 1, 4);
    }

    // ---- promise 1

    /** "A PLAN without LINES" */
    static void promise1APlanWithoutLines() {
        BagTree x = new BagTree();
        due("tables", x.told(0), 0);
        due("views", x.told(1), 0);
        due("size(0)", x.size(0), NONE);
        due("would(0)", x.would(0), NONE);
        due("moved(0)", x.moved(0), NONE);
        due("came(0)", x.came(0), NONE);
        due("round(0, ..)", x.round(0, 0, 0, 0, 0), NONE);
        due("rounds(0)", x.rounds(0), NONE);
        due("differs(0)", x.differs(0), NONE);
        due("of(0, 0)", x.of(0, 0), NONE);
        due("change(0, ..)", x.change(0, 0, 0, 0, 0, 1), NONE);
        dueNoSuch("at(0, 0, 0)", () -> x.at(0, 0, 0));
        dueNoSuch("count(0, ..)", () -> x.count(0, 0, 0, 0, 0));
        dueNoSuch("total(0)", () -> x.total(0));
        dueNoSuch("movedAt(0, 0, 0)", () -> x.movedAt(0, 0, 0));
        dueNoSuch("column(0, 0, 2)", () -> x.column(0, 0, 2));
    }

    /** "an empty TAPE" */
    static void promise1AnEmptyTape() {
        BagTree x = new BagTree();
        due("bytes", x.told(9), 0);
        due("end(1)", x.end(1), NONE);
        due("end(0)", x.end(0), 0);
        due("plan()", x.plan(), 0);
        due("feed", x.feed(0, 0, 0), 24);
    }

    /** A PLAN without LINES as every new one: nothing moved, nothing can be undone, the batch is empty. */
    static void promise1NothingHasBeenDone() {
        BagTree x = new BagTree();
        for (int what = 0; what <= 9; what++) {
            due("told(" + what + ")", x.told(what), 0);
        }
        due("pending(NONE, 0)", x.pending(NONE, 0), 0);
        dueNoSuch("pending(0, 0)", () -> x.pending(0, 0));
        due("cancel()", x.cancel(), 0);
        due("undo()", x.undo(), NONE);
    }

    /** An empty batch of no tables is done, and undone, as any other. */
    static void promise1ABatchOfNoTables() {
        BagTree x = new BagTree();
        due("commit()", x.commit(), 0);
        due("done", x.told(2), 1);
        due("undo()", x.undo(), 0);
        due("undo() again", x.undo(), NONE);
    }

    // ---- promise 2

    /** "24 bytes come behind the TAPE: how many it has" */
    static void promise2UpTo936() {
        BagTree x = new BagTree();
        for (int n = 1; n <= 39; n++) {
            due("feed " + n, x.feed(n, n, n), 24 * n);
            due("told(9)", x.told(9), 24 * n);
        }
    }

    /** "NONE, and none come, if it would have more than 936" */
    static void promise2AFullTape() {
        BagTree x = new BagTree();
        feed(x, "table a 3;" + " ".repeat(926));
        due("full", x.told(9), 936);
        due("feed", x.feed(-1, -1, -1), NONE);
        due("feed again", x.feed(0, 0, 0), NONE);
        due("still full", x.told(9), 936);
        due("cut to 900", x.end(900), 900);
        due("none of them came", x.plan(), 1);
        due("its columns", x.of(0, 1), 3);
    }

    /** The same, where the tape would have one byte more than 936, and none. */
    static void promise2OneByteTooMany() {
        BagTree x = new BagTree();
        feed(x, " ".repeat(913));
        due("feed to 937", x.feed(-1, -1, -1), NONE);
        due("told(9)", x.told(9), 913);
        due("end(912)", x.end(912), 912);
        due("feed to 936", x.feed(-1, -1, -1), 936);
    }

    /** What a refused feed would have brought is nowhere on the tape. */
    static void promise2NoneComePartly() {
        BagTree x = new BagTree();
        feed(x, " ".repeat(920));
        due("feed to 944", x.feed(-1, -1, -1), NONE);
        due("end(921)", x.end(921), NONE);
        due("end(900)", x.end(900), 900);
        due("plan()", x.plan(), 0);
    }

    /** "of each the highest first", a ahead of b ahead of c */
    static void promise2TheHighestByteFirst() {
        BagTree x = new BagTree();
        // "table a ", "2;view v", "=union a", " a;     "
        due("feed", x.feed(0x7461626c65206120L, 0x323b766965772076L, 0x3d756e696f6e2061L), 24);
        due("feed", x.feed(0x20613b2020202020L, 0x2020202020202020L, 0x2020202020202020L), 48);
        due("plan()", x.plan(), 2);
        due("kind", x.of(1, 0), 4);
        due("columns", x.of(1, 1), 2);
    }

    /** A byte above 127 is none of the signs below it. */
    static void promise2BytesAbove127() {
        for (int sign : new int[] {' ', '\n', ';', 'a', '0', 'z', '9', 127}) {
            BagTree x = new BagTree();
            x.feed((long) (sign | 128) << 56, 0, 0);
            x.end(1);
            due("plan() of the byte " + (sign | 128), x.plan(), codeOfFault(0, 1));
        }
        faultAt("table a!\u00a01;", 1);
        faultAt("table a 1!\u00bb", 1);
        faultAt("table !\u00e1 1;", 1);
        faultAt("table a !\u00b1;", 1);
    }

    /** "come behind the TAPE", also where it was cut */
    static void promise2BehindWhatWasCut() {
        BagTree x = new BagTree();
        feed(x, "table a 4");
        due("feed", x.feed(0x3b20202020202020L, 0x2020202020202020L, 0x2020202020202020L), 33);
        due("plan()", x.plan(), 1);
        due("columns", x.of(0, 1), 4);
    }

    // ---- promise 3

    /** "The TAPE has its first n bytes alone: n" */
    static void promise3TheFirstBytesAlone() {
        BagTree x = new BagTree();
        feed(x, "table a 1;view v");
        due("end(10)", x.end(10), 10);
        due("told(9)", x.told(9), 10);
        due("plan()", x.plan(), 1);
    }

    /** All bytes, and none, are so many that it has. */
    static void promise3AllAndNone() {
        BagTree x = new BagTree();
        x.feed(0, 0, 0);
        due("end(24)", x.end(24), 24);
        due("told(9)", x.told(9), 24);
        due("end(0)", x.end(0), 0);
        due("told(9)", x.told(9), 0);
        due("end(0) of an empty one", x.end(0), 0);
    }

    /** "NONE: it has not so many" */
    static void promise3NotSoMany() {
        BagTree x = new BagTree();
        due("end(1) of an empty one", x.end(1), NONE);
        x.feed(0, 0, 0);
        due("end(25)", x.end(25), NONE);
        due("end(936)", x.end(936), NONE);
        due("end(most)", x.end(MOST_INT), NONE);
        due("told(9)", x.told(9), 24);
    }

    /** The same of a full tape. */
    static void promise3NotSoManyOfAFullOne() {
        BagTree x = new BagTree();
        feed(x, " ".repeat(936));
        due("end(937)", x.end(937), NONE);
        due("told(9)", x.told(9), 936);
        due("end(936)", x.end(936), 936);
    }

    /** "NONE: n is below 0" */
    static void promise3BelowZero() {
        BagTree x = new BagTree();
        due("end(-1) of an empty one", x.end(-1), NONE);
        x.feed(0, 0, 0);
        due("end(-1)", x.end(-1), NONE);
        due("end(least)", x.end(LEAST_INT), NONE);
        due("told(9)", x.told(9), 24);
    }

    /** What was cut does not come back. */
    static void promise3WhatWasCutIsGone() {
        BagTree x = new BagTree();
        x.feed(0, 0, 0);
        due("end(5)", x.end(5), 5);
        due("end(6)", x.end(6), NONE);
        due("end(24)", x.end(24), NONE);
        due("told(9)", x.told(9), 5);
    }

    // ---- promise 4: what plan() answers and leaves

    /** "The TAPE is the PLAN: how many RELATIONS": none, one, sixteen */
    static void promise4HowManyRelations() {
        fine("", 0);
        fine(" ", 0);
        fine("\n", 0);
        fine("table a 1;", 1);
        fine(lines(1, 1), 2);
        fine(lines(16, 0), 16);
        fine(lines(1, 15), 16);
        fine(lines(15, 1), 16);
    }

    /** "The TAPE (empty then)": behind a PLAN, a FAULT and NONE */
    static void promise4TheTapeIsEmptyThen() {
        for (String text : new String[] {"table a 1;", "table", " ".repeat(901), " ".repeat(900), ""}) {
            BagTree x = new BagTree();
            feed(x, text);
            x.plan();
            due("told(9)", x.told(9), 0);
            due("end(1)", x.end(1), NONE);
            due("plan() of the empty one", x.plan(), 0);
            due("feed", x.feed(0, 0, 0), 24);
        }
    }

    /** "NONE: more than 900 bytes", "A PLAN is a text of at most 900 bytes" */
    static void promise4MoreThan900Bytes() {
        BagTree x = new BagTree();
        due("901", plan(x, "table a 1;" + " ".repeat(891)), NONE);
        due("901 with a fault", plan(x, "?" + " ".repeat(900)), NONE);
        due("912", plan(x, "table a 1;" + " ".repeat(902)), NONE);
        due("936", plan(x, "table a 1;" + " ".repeat(926)), NONE);
        due("900", plan(x, "table a 1;" + " ".repeat(890)), 1);
        due("900, the last one the ;", plan(x, "table a" + " ".repeat(891) + "2;"), 1);
        due("899", plan(x, "table a 1;" + " ".repeat(889)), 1);
    }

    /** 900 bytes can be as many tokens, one run, or a fault at their end. */
    static void promise4Texts900BytesLong() {
        fault(";".repeat(900), 0, 1);
        fault("a".repeat(900), 0, 1);
        fault("1".repeat(900), 0, 1);
        fault("table a 1" + " ".repeat(891), 900, 1);
        fault(" ".repeat(895) + "table", 900, 1);
        fault(" ".repeat(899) + "a", 899, 1);
        fault(" ".repeat(896) + "view", 900, 1);
    }

    private static BagTree used() {
        BagTree x = planned("table a 2;view r = ring a with a on c1 = c0 keep c0, c3;");
        change(x, 0, 1, 2, 1);
        x.commit();
        change(x, 0, 2, 3, 2);
        x.commit();
        change(x, 0, 2, 3, -3);
        x.commit();
        change(x, 0, 7, 7, 1);
        return x;
    }

    private static void dueUsed(BagTree x) {
        int[] told = {1, 1, 2, 1, 2, 1, 3, 2, 2, 0};
        for (int what = 0; what < told.length; what++) {
            due("told(" + what + ")", x.told(what), told[what]);
        }
        dueText("table", bag(x, 0), "1,2:1 2,3:2");
        dueText("view", bag(x, 1), "1,2:1 1,3:1 2,3:1");
        dueText("moved", moves(x, 1), "1,3:1 2,3:1");
        due("kind", x.of(1, 0), 8);
        due("columns", x.of(1, 1), 2);
        due("name", x.of(1, 7), 18);
        due("hangs on", x.of(1, 4), 1);
        due("round", x.round(1, 1, 3, 0, 0), 1);
        due("came", x.came(1), 2);
        due("pending", x.pending(0, 1), 7);
        due("would", x.would(1), 4);
        due("undo", x.undo(), 1);
        dueText("view undone", bag(x, 1), "1,2:1");
        due("commit", x.commit(), 1);
    }

    /** "of the FAULT (all else stays)": each kind, and a long way into a plan */
    static void promise4AllElseStaysBehindAFault() {
        String[] faults = {
            "?", "table b 0;", "table b 1;view w = distinct c;",
            lines(16, 0) + "table x 1;", "table b 1;table d 2;view v = union b d;", lines(1, 1) + "table x 1;",
            "table q 4;table p 3;view z = project q c3;view y = distinct z;view x = minus z y",
        };
        for (String text : faults) {
            BagTree x = used();
            due("a fault", plan(x, text) < NONE ? 1 : 0, 1);
            dueUsed(x);
        }
    }

    /** The same behind "NONE: more than 900 bytes" */
    static void promise4AllElseStaysBehindNone() {
        BagTree x = used();
        due("901 bytes", plan(x, "table b 1;" + " ".repeat(891)), NONE);
        dueUsed(x);
    }

    /** Names of a plan with a fault are not told, those of a plan ahead of it are free again. */
    static void promise4NamesOfAnotherPlan() {
        BagTree x = new BagTree();
        due("a fault", plan(x, "table a 1;table b 1;view"), codeOfFault(24, 1));
        due("b is not told", plan(x, "table a 1;view v = distinct b;"), codeOfFault(28, 3));
        due("a is free", plan(x, "table a 1;"), 1);
        due("a is free again", plan(x, "table a 2;view b = distinct a;"), 2);
        due("b is free", plan(x, "table b 3;"), 1);
        due("columns", x.of(0, 1), 3);
        due("no other", x.size(1), NONE);
    }

    /** "A new PLAN: all BAGS are empty", views have nothing, "nothing MOVED, can be UNDONE, the BATCH is empty" */
    static void promise4ANewPlan() {
        BagTree x = used();
        due("plan", plan(x, "table a 2;view r = ring a with a on c1 = c0 keep c0, c3;view g = group a by c0 count;"), 3);
        for (int what = 2; what <= 9; what++) {
            due("told(" + what + ")", x.told(what), 0);
        }
        for (int r = 0; r < 3; r++) {
            due("size", x.size(r), 0);
            due("moved", x.moved(r), 0);
            due("total", x.total(r), 0);
            due("differs", x.differs(r), 0);
        }
        due("came", x.came(1), 0);
        due("rounds", x.rounds(1), 0);
        due("round", x.round(1, 1, 2, 0, 0), NONE);
        due("count", x.count(0, 1, 2, 0, 0), 0);
        due("pending", x.pending(NONE, 0), 0);
        due("undo", x.undo(), NONE);
        due("cancel", x.cancel(), 0);
        due("commit", x.commit(), 0);
    }

    /** A new PLAN without LINES is one, too. */
    static void promise4ANewPlanWithoutLines() {
        BagTree x = used();
        due("plan", x.plan(), 0);
        for (int what = 0; what <= 9; what++) {
            due("told(" + what + ")", x.told(what), 0);
        }
        due("size", x.size(0), NONE);
        due("undo", x.undo(), NONE);
        due("commit", x.commit(), 0);
    }

    /** Nothing of a plan ahead is left in a line that tells something else now: each kind behind each other. */
    static void promise4LinesOfPlansAhead() {
        String[] views = {
            "select a where c0 > 1 and c1 < c0", "project a c1 + 1, 7, c0", "join a b on c0 = c1, c1 = c0", "union a b",
            "minus a b", "distinct a", "group a by c1, c0 most c1", "ring a with b on c1 = c0 keep c0, c3",
            "group a by c0 count", "project b 3", "select b where c0 = 2",
        };
        String[] bags = {"3,1:1", "2,7,3:1 4,7,2:2", "2,3:4", "2,3:2 3,1:1 3,2:2 5,5:1", "2,3:2 3,1:1 3,2:-2 5,5:-1", "2,3:1 3,1:1",
            "1,3,1:1 3,2,3:1", "2,2:1 2,3:1 3,1:1", "2,2:1 3,1:1", "3:3", ""};
        int[] columns = {2, 3, 2, 2, 2, 2, 3, 2, 2, 1, 2};
        int[] hangsOn = {1, 1, 3, 3, 3, 1, 1, 3, 1, 2, 2};
        for (int one = 0; one < views.length; one++) {
            BagTree x = new BagTree();
            for (int k = 0; k < 4; k++) {
                int other = k % 2 == 0 ? (one + k / 2) % views.length : (one + 3 + k) % views.length;
                due("plan", plan(x, "table a 2;table b 2;view v = " + views[other] + ";"), 3);
                plan(x, "table a 2;view w = " + views[one].replace(" b ", " a ") + ";view v = distinct w; table");
                change(x, 0, 2, 3, 2);
                change(x, 0, 3, 1, 1);
                change(x, 1, 3, 2, 2);
                change(x, 1, 5, 5, 1);
                x.commit();
                dueText(views[other], bag(x, 2), bags[other]);
                due("columns", x.of(2, 1), columns[other]);
                due("tables", x.told(0), 2);
                due("hangs on", x.of(2, 4), hangsOn[other]);
                due("how far", x.of(2, 6), 1);
            }
        }
    }

    /** A line that told a view ahead tells a table now, and the other way. */
    static void promise4TablesWhereViewsWere() {
        BagTree x = new BagTree();
        for (int k = 0; k < 3; k++) {
            due("views", plan(x, "table a 1;view b = distinct a;view d = minus b a;view e = union d d;"), 4);
            due("tables", x.told(0), 1);
            due("kind", x.of(1, 0), 6);
            due("far", x.of(3, 6), 3);
            due("tables", plan(x, "table a 1;table b 1;table d 1;table e 1;"), 4);
            due("tables", x.told(0), 4);
            for (int r = 0; r < 4; r++) {
                due("kind", x.of(r, 0), 0);
                due("R", x.of(r, 2), NONE);
                due("second R", x.of(r, 3), NONE);
                due("hangs on", x.of(r, 4), 0);
                due("on it", x.of(r, 5), 0);
                due("far", x.of(r, 6), 0);
            }
            due("a change", x.change(3, 1, 0, 0, 0, 1), 1);
        }
    }

    /** A group where a ring was has none of its rounds. */
    static void promise4AGroupWhereARingWas() {
        BagTree x = new BagTree();
        for (int k = 0; k < 3; k++) {
            plan(x, "table a 2;view v = ring a with a on c1 = c0 keep c0, c3;");
            for (int i = 0; i < 6; i++) {
                change(x, 0, i, i + 1, 1);
            }
            x.commit();
            x.commit();
            due("rounds", x.rounds(1), 5);
            plan(x, "table a 2;view v = group a by c0 " + (k == 1 ? "most" : "least") + " c1;");
            for (int i = 0; i < 6; i++) {
                change(x, 0, i, k == 1 ? -5 : 5, 1);
            }
            x.commit();
            for (int i = 0; i < 6; i++) {
                due("fold", x.at(1, i, 1), k == 1 ? -5 : 5);
            }
            due("no ring", x.rounds(1), NONE);
        }
    }

    /** A relation that the new PLAN has not is none, though the one ahead had it. */
    static void promise4FewerRelations() {
        BagTree x = planned(lines(4, 4));
        due("plan", plan(x, lines(2, 1)), 3);
        due("size(2)", x.size(2), 0);
        due("size(3)", x.size(3), NONE);
        due("change of what is a view now", x.change(2, 1, 0, 0, 0, 1), NONE);
        due("change", x.change(1, 1, 0, 0, 0, 1), 1);
        due("who hangs on it", x.of(0, 5), 4);
    }

    // ---- promise 4: tokens

    /** "with blanks (32, 10) between TOKENS or not" */
    static void promise4BlanksOrNot() {
        fine("table a 2;view v=select a where c0=c1 and c1<9;view w=project a c0+1,c1-2,3;", 3);
        fine("  table\n\na  2  ;\nview v = select a where c0 = c1 and c1 < 9 ;\n view w = project a c0 + 1 , c1 - 2 , 3 ;\n ", 3);
        fine("table\na\n2\n;", 1);
    }

    /** Blanks are needed between two runs alone. */
    static void promise4RunsNeedBlanks() {
        faultAt("!tablea 1;", 1);
        faultAt("table !a1;", 1);
        faultAt("table a 1;!viewv = distinct a;", 1);
        faultAt("table a 1;view v = !distincta;", 1);
        faultAt("table a 2;view v = select a where c0 = !1and c0 = 2;", 1);
        faultAt("table a 2;view v = select a where c0 = !c1and c0 = 2;", 1);
    }

    /** Blanks are 32 and 10: any other byte that is no sign of a token is no TOKEN. */
    static void promise4OtherBytesAreNoToken() {
        for (char sign = 0; sign < 256; sign++) {
            boolean run = (sign >= 'a' && sign <= 'z') || (sign >= '0' && sign <= '9');
            if (!run && " \n=<>+-,;".indexOf(sign) < 0) {
                fault(sign + "table a 1;", 0, 1);
                fault("table" + sign + "a 1;", 5, 1);
                fault("table " + sign + " 1;", 6, 1);
                fault("table a" + sign + ";", 7, 1);
                fault("table a 1" + sign, 9, 1);
                fault("table a 1;" + sign, 10, 1);
                fault("table a 1;view v = project a " + sign + ";", 29, 1);
            }
        }
    }

    /** A run ends where the tape was cut, whatever stood behind it. */
    static void promise4ARunThatWasCut() {
        dueOfCut("table a 11;", 9, 9, 1);
        dueOfCut("table a 1;", 9, 9, 1);
        String text = "table a 1;view v = distinct ab;";
        dueOfCut(text, 4, 0, 1);
        dueOfCut(text, 5, 5, 1);
        dueOfCut(text, 7, 7, 1);
        dueOfCut(text, 13, 10, 1);
        dueOfCut(text, 26, 19, 1);
        dueOfCut(text, 27, 27, 1);
        dueOfCut(text, 29, 29, 1);
        dueOfCut(text, 30, 28, 3);
    }

    private static void dueOfCut(String text, int length, int place, int kind) {
        BagTree x = new BagTree();
        feed(x, text);
        x.end(length);
        due(text + " cut to " + length, x.plan(), codeOfFault(place, kind));
    }

    /** Signs are single ones: two of them are two tokens. */
    static void promise4SingleSigns() {
        faultAt("table a 1;!;", 1);
        faultAt("!;", 1);
        faultAt("table a 1;view v =!= distinct a;", 1);
        faultAt("table a 1;view v = select a where c0 <!= 1;", 1);
        faultAt("table a 1;view v = select a where c0 >!> 1;", 1);
        faultAt("table a 1;view v = project a c0 +!- 1;", 1);
        faultAt("table a 1;view v = project a c0 ,!, c0;", 1);
        for (String sign : "= < > + - , ;".split(" ")) {
            fault(sign, 0, 1);
        }
    }

    /** "a COLUMN (c and a digit 0 to 3)" */
    static void promise4ColumnTokens() {
        fine("table a 4;view v = project a c0,c1,c2,c3;", 2);
        for (String run : "c4 c5 c9 c c00 c01 c0c cc0 0c d0 b3 c0a 1c1 cc".split(" ")) {
            faultAt("table a 4;view v = project a !" + run + ";", 1);
        }
    }

    /** "a WORD (1 to 8 letters, no digits)" */
    static void promise4WordTokens() {
        fine("table a 1;table z 1;table abcdefgh 1;table abcdefg 1;table zzzzzzzz 1;", 5);
        faultAt("table !abcdefghi 1;", 1);
        faultAt("table !" + "z".repeat(100) + " 1;", 1);
        faultAt("table !a1 1;", 1);
        faultAt("table !1a 1;", 1);
        faultAt("table !abcdefg1 1;", 1);
        faultAt("table a 1;view v = distinct !aaaaaaaaa;", 1);
        faultAt("!tabletable", 1);
    }

    /** "a NUMBER (1 to 4 digits alone)" */
    static void promise4NumberTokens() {
        fine("table a 1;view v = select a where c0 = 0 and c0 < 9999 and c0 > 0000 and c0 = 007;", 2);
        fine("table a 0001;table b 04;", 2);
        faultAt("table a !00001;", 1);
        faultAt("table a !12345;", 1);
        faultAt("table a !1a;", 1);
        faultAt("table a 1;view v = select a where c0 = !10000;", 1);
        faultAt("table a 1;view v = project a c0 + !00000;", 1);
        faultAt("table a 1;view v = select a where c0 = !-1;", 1);
    }

    /** A NUMBER of 4 digits is what they tell, zeros ahead of it or not. */
    static void promise4NumbersAreWhatTheyTell() {
        BagTree x = planned("table a 1;view v = project a 9999, 0009, 0, c0 + 9999;");
        change(x, 0, -9999, 0, 1);
        x.commit();
        dueText("tuple", bag(x, 1), "9999,9,0,0:1");
    }

    // ---- promise 4: lines

    /** "{ LINE ; }": each line has its ; and none is empty */
    static void promise4EachLineHasItsEnd() {
        faultAt("table a 1!", 1);
        faultAt("table a 1 \n !", 1);
        faultAt("table a 1 !table b 1;", 1);
        faultAt("table a 1;view v = distinct a!", 1);
        faultAt("table a 1;view v = distinct a !view w = distinct a;", 1);
        faultAt("table a 1;!;", 1);
    }

    /** "the end: how many bytes there are": a text may end wherever a token should come. */
    static void promise4TheEndOfTheText() {
        String line = "table a 2;view v = ring a with a on c0 = c1 keep c0 + 1 , 7 ;";
        String[] parts = line.split(" ");
        StringBuilder text = new StringBuilder();
        for (int k = 0; k < parts.length; k++) {
            text.append(k == 0 ? "" : " ").append(parts[k]);
            String now = text.toString();
            if (!now.endsWith(";") && !now.endsWith("view")) {
                fault(now, now.length(), 1);
                fault(now + " \n", now.length() + 2, 1);
            }
        }
        fine(line, 2);
    }

    /** "table NAME NUMBER (COLUMNS, 1 to 4 ..)", kind 2 "a NUMBER (of COLUMNS) not 1 to 4 (at it)" */
    static void promise4ColumnsOfATable() {
        for (int columns = 1; columns <= 4; columns++) {
            BagTree x = planned("table a " + columns + ";");
            due("columns", x.of(0, 1), columns);
        }
        for (String number : "0 5 9 10 0000 0005 9999".split(" ")) {
            faultAt("table a !" + number + ";", 2);
        }
    }

    /** Only a NUMBER of COLUMNS is held to 1 to 4, no other one. */
    static void promise4OtherNumbersAreFree() {
        fine("table a 1;view v = select a where c0 = 5 and c0 > 0;view w = project a 0, 5, c0 + 5, c0 - 0;", 3);
    }

    /** "NAME: a WORD that is none of those told here" */
    static void promise4NamesAreNoneOfTheWords() {
        for (String word : WORDS) {
            faultAt("table !" + word + " 1;", 1);
            faultAt("table a 1;view !" + word + " = distinct a;", 1);
            faultAt("table a 1;view v = distinct !" + word + ";", 1);
            faultAt("table a 1;view v = union a !" + word + ";", 1);
        }
    }

    /** Words that are nearly told here can be names. */
    static void promise4NamesNearTheWords() {
        fine("table tables 1;table tabl 1;table o 1;table ons 1;table c 1;table rings 1;table keeps 1;table leas 1;", 8);
        fine("table selects 1;table vie 1;table of 1;table name 1;table column 1;table number 1;table none 1;", 7);
    }

    /** "NAME: .. each once", kind 3 "a NAME told already (at it)" */
    static void promise4ANameToldAlready() {
        faultAt("table a 1;table !a 1;", 3);
        faultAt("table a 1;table b 1;table !a 9;", 3);
        faultAt("table a 1;view !a = distinct a;", 3);
        faultAt("table a 1;view v = distinct a;view !v = distinct a;", 3);
        faultAt("table abcdefgh 1;table abcdefgi 1;table !abcdefgh 1;", 3);
        fine("table a 1;table aa 1;table aaa 1;table b 1;table ab 1;table ba 1;", 6);
    }

    /** "R: the NAME of a RELATION told ahead", kind 3 "a NAME not told (at it)" */
    static void promise4ANameNotTold() {
        faultAt("table a 1;view v = distinct !b;", 3);
        faultAt("table a 1;view v = distinct !v;", 3);
        faultAt("table a 1;view v = distinct !w;view w = distinct a;", 3);
        faultAt("table a 1;view v = union a !b;", 3);
        faultAt("table a 1;view v = join a !b on c0 = c0;", 3);
        faultAt("table a 1;view v = ring a with !b on c0 = c0 keep c0;", 3);
        faultAt("table a 1;view v = select !b where c0 = 1;", 3);
        faultAt("table a 1;view v = group !b by c0 count;", 3);
        faultAt("table a 1;view v = project !b c0;", 3);
        faultAt("table a 1;view v = minus !b a;", 3);
        faultAt("view v = distinct !a;", 3);
    }

    /** "table .. (ahead of all views)", kind 6 "a table behind a view (at its first WORD)" */
    static void promise4ATableBehindAView() {
        faultAt("table a 1;view v = distinct a;!table b 1;", 6);
        faultAt("table a 1;view v = distinct a;  !table", 6);
        faultAt("table a 1;view v = distinct a;!table a 9;", 6);
    }

    /** "RELATIONS .. 16 at most", kind 4 "a 17th RELATION (at its first WORD)" */
    static void promise4ASeventeenthRelation() {
        faultAt(lines(16, 0) + "!table x 1;", 4);
        faultAt(lines(16, 0) + "!view v = distinct ta;", 4);
        faultAt(lines(8, 8) + " !view", 4);
        faultAt(lines(16, 0) + "!table", 4);
    }

    /** "of one TOKEN the least": a 17th relation that is a table behind a view, or no line at all */
    static void promise4ASeventeenthOfTwoFaults() {
        faultAt(lines(1, 15) + "!table x 1;", 4);
        faultAt(lines(1, 15) + "!x", 1);
        faultAt(lines(1, 15) + "!;", 1);
        faultAt(lines(1, 15) + "!select", 1);
        fine(lines(1, 15) + " \n", 16);
    }

    /** "one that can't come there": each kind of token where another should be */
    static void promise4ATokenThatCantComeThere() {
        for (String token : "a 1 c0 = < > + - , ; select on".split(" ")) {
            faultAt("!" + token + " a 1;", 1);
        }
        for (String token : "1 c0 = ; select".split(" ")) {
            faultAt("table !" + token + " 1;", 1);
        }
        for (String token : "a c0 = ; + table".split(" ")) {
            faultAt("table a !" + token + ";", 1);
        }
        for (String token : "distinct < 1 c0 a ;".split(" ")) {
            faultAt("table a 1;view v !" + token + ";", 1);
        }
        for (String token : "table view where and on by with keep count sum least most a 1 c0 = ;".split(" ")) {
            faultAt("table a 1;view v = !" + token + ";", 1);
        }
        for (String token : "1 c0 = ;".split(" ")) {
            faultAt("table a 1;view v = distinct !" + token + ";", 1);
            faultAt("table a 1;view v = minus a !" + token + ";", 1);
        }
    }

    // ---- promise 4: the parts of a view's line

    /** select: "where TEST { and TEST }", "TEST: COLUMN (= | < | >) (COLUMN | NUMBER)" */
    static void promise4TokensOfASelect() {
        String head = "table a 2;view v = select a ";
        faultAt(head + "!;", 1);
        faultAt(head + "!c0 = 1;", 1);
        faultAt(head + "where !;", 1);
        faultAt(head + "where !1 = c0;", 1);
        faultAt(head + "where c0 !;", 1);
        faultAt(head + "where c0 !+ 1;", 1);
        faultAt(head + "where c0 = !;", 1);
        faultAt(head + "where c0 = !a;", 1);
        faultAt(head + "where c0 = c1 !+ 1;", 1);
        faultAt(head + "where c0 = 1 !, c1 = 1;", 1);
        faultAt(head + "where c0 = 1 and !;", 1);
        faultAt(head + "where c0 = 1 and !and c1 = 1;", 1);
        faultAt(head + "where c0 = 1 !where c1 = 1;", 1);
    }

    /** "a ninth TEST (at its first TOKEN)": 8 are fine */
    static void promise4ANinthTest() {
        String head = "table a 2;view v = select a where " + EIGHT_TESTS;
        fine(head + ";", 2);
        faultAt(head + " and !c0 = 1;", 4);
        faultAt(head + " and !c1", 4);
        faultAt(head + " and !c1 ? 1;", 4);
    }

    /** "of one TOKEN the least", of a ninth TEST */
    static void promise4ANinthTestOfTwoFaults() {
        String head = "table a 2;view v = select a where " + EIGHT_TESTS;
        faultAt(head + " and !c2 = 1;", 2);
        faultAt(head + " and !1 = c0;", 1);
        faultAt(head + " and !;", 1);
        faultAt(head + " and!", 1);
    }

    /** A select of eight tests holds where all of them do. */
    static void promise4AllOfEightTests() {
        BagTree x = planned("table a 2;view v = select a where c0>0 and c0>1 and c0>2 and c0>3 and c0<9 and c0<8 and c0<7 and c1=5;");
        change(x, 0, 4, 5, 1);
        change(x, 0, 4, 6, 1);
        change(x, 0, 3, 5, 1);
        change(x, 0, 7, 5, 1);
        x.commit();
        dueText("tuples", bag(x, 1), "4,5:1");
    }

    /** project: "TERM: COLUMN [ (+ | -) NUMBER ] | NUMBER" */
    static void promise4TokensOfAProject() {
        String head = "table a 2;view v = project a ";
        faultAt(head + "!;", 1);
        faultAt(head + "!, c0;", 1);
        faultAt(head + "!a;", 1);
        faultAt(head + "c0 !c1;", 1);
        faultAt(head + "c0 , !;", 1);
        faultAt(head + "c0 + !c1;", 1);
        faultAt(head + "c0 - !;", 1);
        faultAt(head + "c0 + 1 !+ 1;", 1);
        faultAt(head + "c0 != 1;", 1);
        faultAt(head + "1 !+ 1;", 1);
        faultAt(head + "!- 1;", 1);
        faultAt(head + "c0 !and c1;", 1);
    }

    /** "(1 to 4)", "a fifth TERM (at its first TOKEN)", of a project */
    static void promise4AFifthTerm() {
        String head = "table a 2;view v = project a ";
        fine(head + "c0;", 2);
        fine(head + "c0,1,c0+1,c1-1;", 2);
        faultAt(head + "c0,1,c0+1,c1-1,!c0;", 4);
        faultAt(head + "c0,1,c0+1,c1-1,!1;", 4);
        faultAt(head + "c0,1,c0+1,c1-1,!c1+a;", 4);
        faultAt(head + "c0,1,c0+1,c1-1,!0", 4);
    }

    /** "of one TOKEN the least", of a fifth TERM */
    static void promise4AFifthTermOfTwoFaults() {
        String head = "table a 2;view v = project a c0,1,c0+1,c1-1,";
        faultAt(head + "!c2;", 2);
        faultAt(head + "!a;", 1);
        faultAt(head + "!;", 1);
        faultAt(head + "!", 1);
    }

    /** join: "R R on COLUMN = COLUMN { , COLUMN = COLUMN }" */
    static void promise4TokensOfAJoin() {
        String head = "table a 2;view v = join a ";
        faultAt(head + "!;", 1);
        faultAt(head + "!on c0 = c0;", 1);
        faultAt(head + "a !;", 1);
        faultAt(head + "a !a on c0 = c0;", 1);
        faultAt(head + "!, a on c0 = c0;", 1);
        faultAt(head + "a on !;", 1);
        faultAt(head + "a on !1 = c0;", 1);
        faultAt(head + "a on c0 !< c0;", 1);
        faultAt(head + "a on c0 = !1;", 1);
        faultAt(head + "a on c0 = c0 !and c1 = c1;", 1);
        faultAt(head + "a on c0 = c0 , !;", 1);
        faultAt(head + "a on c0 = c0 !c1 = c1;", 1);
    }

    /** "(.. 4 at most)", "a fifth .. pair of a join (at its first TOKEN)" */
    static void promise4AFifthPair() {
        String head = "table a 2;view v = join a a on c0=c0,c1=c1,c0=c1,c1=c0";
        fine(head + ";", 2);
        faultAt(head + ",!c0=c0;", 4);
        faultAt(head + ",!c1", 4);
        fine("table a 4;view v = join a a on c0=c0,c1=c1,c2=c2,c3=c3;", 2);
    }

    /** "of one TOKEN the least", of a fifth pair */
    static void promise4AFifthPairOfTwoFaults() {
        String head = "table a 2;view v = join a a on c0=c0,c1=c1,c0=c1,c1=c0,";
        faultAt(head + "!c2=c0;", 2);
        faultAt(head + "!1=c0;", 1);
        faultAt(head + "!;", 1);
    }

    /** "(4 COLUMNS at most in all)", kind 5 "a join .. of more than 4 (at the ; behind it)" */
    static void promise4AJoinOfMoreThanFour() {
        String tables = "table a 1;table b 2;table d 3;table e 4;";
        fine(tables + "view v = join d b on c0 = c0;", 5);
        fine(tables + "view v = join b d on c0 = c0;", 5);
        fine(tables + "view v = join a e on c0 = c3;", 5);
        fine(tables + "view v = join e a on c3 = c0;", 5);
        fine(tables + "view v = join e e on c0=c0,c0=c1,c0=c2,c0=c3;", 5);
        faultAt(tables + "view v = join d d on c0 = c0 !;", 5);
        faultAt(tables + "view v = join e b on c0 = c0!;", 5);
        faultAt(tables + "view v = join b e on c0 = c0!;", 5);
        faultAt(tables + "view v = join e e on c0 = c0\n!;view w = ?", 5);
        faultAt(tables + "view v = join e e on c0=c0,c1=c1,c2=c2!;", 5);
    }

    /** A column of the second R told twice leaves out one column alone. */
    static void promise4AColumnOfAJoinToldTwice() {
        String tables = "table d 3;table e 4;";
        faultAt(tables + "view v = join d d on c0=c0,c1=c0!;", 5);
        faultAt(tables + "view v = join e e on c0=c0,c1=c0,c2=c0,c3=c0!;", 5);
        faultAt(tables + "view v = join e e on c0=c0,c1=c1,c2=c2,c3=c2!;", 5);
        fine(tables + "view v = join d d on c0=c0,c0=c1;", 3);
    }

    /** What is wrong ahead of the ; of a join of too many is the fault. */
    static void promise4AJoinOfTooManyWithoutItsEnd() {
        faultAt("table d 3;view v = join d d on c0 = c0!", 1);
        faultAt("table d 3;view v = join d d on c0 = c0 !and", 1);
        faultAt("table d 3;view v = join d d on c0 = c0, !c3 = c0;", 2);
    }

    /** union, minus: "(of like many COLUMNS)", kind 5 "unlike COLUMNS of union, minus (at the second R)" */
    static void promise4UnlikeColumns() {
        String tables = "table a 1;table b 2;table d 3;table e 4;view w = project e c0;";
        for (String kind : new String[] {"union", "minus"}) {
            faultAt(tables + "view v = " + kind + " a !b;", 5);
            faultAt(tables + "view v = " + kind + " e !d;", 5);
            faultAt(tables + "view v = " + kind + " w !e;", 5);
            faultAt(tables + "view v = " + kind + " b !a", 5);
            faultAt(tables + "view v = " + kind + " b !x;", 3);
            faultAt(tables + "view v = " + kind + " b !c1;", 1);
            faultAt(tables + "view v = " + kind + " a a !a;", 1);
            fine(tables + "view v = " + kind + " a w;view u = " + kind + " e e;", 7);
        }
    }

    /** group: "by COLUMN { , COLUMN } FOLD", "FOLD: count | sum COLUMN | least COLUMN, most COLUMN" */
    static void promise4TokensOfAGroup() {
        String head = "table a 2;view v = group a ";
        faultAt(head + "!;", 1);
        faultAt(head + "!c0 count;", 1);
        faultAt(head + "by !;", 1);
        faultAt(head + "by !count;", 1);
        faultAt(head + "by !1 count;", 1);
        faultAt(head + "by c0 !;", 1);
        faultAt(head + "by c0 , !;", 1);
        faultAt(head + "by c0 !c1 count;", 1);
        faultAt(head + "by c0 !keep c1;", 1);
        faultAt(head + "by c0 !a;", 1);
        faultAt(head + "by c0 count !c1;", 1);
        faultAt(head + "by c0 count!", 1);
        for (String fold : "sum least most".split(" ")) {
            faultAt(head + "by c0 " + fold + " !;", 1);
            faultAt(head + "by c0 " + fold + " !1;", 1);
            faultAt(head + "by c0 " + fold + " c1 !, c0;", 1);
            faultAt(head + "by c0 " + fold + " !c2;", 2);
            fine(head + "by c0 " + fold + " c1;", 2);
        }
    }

    /** "(3 COLUMNS at most ..)", "a fourth COLUMN of a group (at its first TOKEN)" */
    static void promise4AFourthColumnOfAGroup() {
        String head = "table a 4;view v = group a by ";
        fine(head + "c3 count;", 2);
        fine(head + "c3,c2,c1 count;", 2);
        faultAt(head + "c3,c2,c1,!c0 count;", 4);
        faultAt(head + "c0,c1,c2,!c3", 4);
    }

    /** "of one TOKEN the least", of a fourth column of a group */
    static void promise4AFourthColumnOfTwoFaults() {
        faultAt("table a 4;view v = group a by c3,c2,c1,!c2 count;", 2);
        faultAt("table a 3;view v = group a by c2,c1,c0,!c3 count;", 2);
        faultAt("table a 4;view v = group a by c3,c2,c1,!count;", 1);
        faultAt("table a 4;view v = group a by c3,c2,c1,!1;", 1);
    }

    /** "each once", kind 2 "told twice in a group (at it)" */
    static void promise4AColumnToldTwiceInAGroup() {
        faultAt("table a 4;view v = group a by c0,!c0 count;", 2);
        faultAt("table a 4;view v = group a by c0,c1,!c0 count;", 2);
        faultAt("table a 4;view v = group a by c0,c1,!c1 count;", 2);
        faultAt("table a 1;view v = group a by c0,!c0", 2);
    }

    /** The FOLD's column may be one of the group's (unsure: "each once" is told of the columns behind by). */
    static void promise4TheColumnOfAFoldMayBeOneOfTheGroup() {
        fine("table a 1;view v = group a by c0 sum c0;", 2);
        fine("table a 3;view v = group a by c2,c1,c0 most c1;", 2);
    }

    /** ring: "R with R on COLUMN = COLUMN keep TERM { , TERM }" */
    static void promise4TokensOfARing() {
        String head = "table a 2;view v = ring a ";
        faultAt(head + "!;", 1);
        faultAt(head + "!a on c0 = c0 keep c0,c1;", 1);
        faultAt(head + "with !on;", 1);
        faultAt(head + "with a !c0 = c0 keep c0,c1;", 1);
        faultAt(head + "with a on !keep;", 1);
        faultAt(head + "with a on c0 !> c0 keep c0,c1;", 1);
        faultAt(head + "with a on c0 = !1 keep c0,c1;", 1);
        faultAt(head + "with a on c0 = c0 !, c1 = c1 keep c0,c1;", 1);
        faultAt(head + "with a on c0 = c0 !;", 1);
        faultAt(head + "with a on c0 = c0 keep !;", 1);
        faultAt(head + "with a on c0 = c0 keep !a;", 1);
        faultAt(head + "with a on c0 = c0 keep c0 , !;", 1);
        faultAt(head + "with a on c0 = c0 keep c0 !c1;", 1);
        faultAt(head + "with a on c0 = c0 keep c0 + !c1;", 1);
    }

    /** "a fifth TERM (at its first TOKEN)", of a ring, ahead of its being too many for it */
    static void promise4AFifthTermOfARing() {
        String head = "table a 2;view v = ring a with a on c0 = c0 keep c0,1,c3,c2";
        faultAt(head + ",!c1;", 4);
        faultAt(head + ",!1;", 4);
        faultAt(head + ",!;", 1);
        faultAt(head + "!;", 5);
        faultAt("table a 1;view v = ring a with a on c0 = c0 keep c0,c0,c0,c0,!c2;", 2);
    }

    /** "(as many TERMS as the first R has COLUMNS)", kind 5 "a ring of more or fewer TERMS (at the ; behind it)" */
    static void promise4ARingOfMoreOrFewerTerms() {
        String tables = "table a 1;table b 2;table d 3;";
        fine(tables + "view v = ring a with d on c0 = c0 keep c3;", 4);
        faultAt(tables + "view v = ring a with d on c0 = c0 keep c3,c2!;", 5);
        faultAt(tables + "view v = ring b with b on c0 = c0 keep c3!;", 5);
        fine(tables + "view v = ring b with b on c0 = c0 keep c3,c2;", 4);
        faultAt(tables + "view v = ring b with b on c0 = c0 keep c3,c2,c1 !;", 5);
        faultAt(tables + "view v = ring d with a on c0 = c0 keep c3,c2!;", 5);
        fine(tables + "view v = ring d with a on c0 = c0 keep c3,c2,c1;", 4);
        faultAt(tables + "view v = ring d with a on c0 = c0 keep c3,c2,c1,c0!;", 5);
        faultAt(tables + "view v = ring d with a on c0 = c0 keep c3!", 1);
    }

    /** "(a and b have 4 COLUMNS at most together.)", kind 5 "a ring of more than 4 (at the ; behind it)" */
    static void promise4ARingOfMoreThanFour() {
        String tables = "table a 1;table b 2;table d 3;table e 4;";
        faultAt(tables + "view v = ring a with e on c0 = c3 keep c0!;", 5);
        faultAt(tables + "view v = ring b with d on c0 = c0 keep c0,c1!;", 5);
        faultAt(tables + "view v = ring d with b on c0 = c0 keep c0,c1,c2!;", 5);
        faultAt(tables + "view v = ring e with a on c0 = c0 keep c0,c1,c2,c3!;", 5);
        faultAt(tables + "view v = ring e with e on c0 = c0 keep c0!;", 5);
        faultAt(tables + "view v = ring e with e on c0 = c0 keep c0!", 1);
    }

    /** "COLUMNS told of an R: below how many it has", kind 2 "a COLUMN that R has not (at it)": select */
    static void promise4AColumnThatASelectHasNot() {
        for (int m = 1; m <= 3; m++) {
            String head = "table a " + m + ";view v = select a where ";
            fine(head + "c" + (m - 1) + " = c" + (m - 1) + ";", 2);
            faultAt(head + "!c" + m + " = c0;", 2);
            faultAt(head + "c0 < !c" + m + ";", 2);
            faultAt(head + "c0 = 1 and c0 > !c" + m + ";", 2);
        }
    }

    /** The same: project */
    static void promise4AColumnThatAProjectHasNot() {
        for (int m = 1; m <= 3; m++) {
            String head = "table a " + m + ";view v = project a ";
            fine(head + "c" + (m - 1) + ";", 2);
            faultAt(head + "!c" + m + ";", 2);
            faultAt(head + "c0,!c" + m + " + 1;", 2);
        }
    }

    /** The same: join, "of the first R, of the second" */
    static void promise4AColumnThatAJoinHasNot() {
        String tables = "table a 1;table d 3;view v = join ";
        fine(tables + "a d on c0 = c2;", 3);
        fine(tables + "d a on c2 = c0;", 3);
        faultAt(tables + "a d on !c1 = c2;", 2);
        faultAt(tables + "a d on c0 = !c3;", 2);
        faultAt(tables + "d a on c2 = !c1;", 2);
        faultAt(tables + "d a on !c3 = c0;", 2);
        faultAt(tables + "d a on c2 = c0, c1 = !c2;", 2);
    }

    /** The same: group */
    static void promise4AColumnThatAGroupHasNot() {
        for (int m = 1; m <= 3; m++) {
            String head = "table a " + m + ";view v = group a by ";
            fine(head + "c" + (m - 1) + " count;", 2);
            faultAt(head + "!c" + m + " count;", 2);
            faultAt(head + "c0,!c" + m + " count;", 2);
            faultAt(head + "c0 sum !c" + m + ";", 2);
        }
    }

    /** The same: ring, whose terms are "over a and b side by side" */
    static void promise4AColumnThatARingHasNot() {
        String tables = "table a 1;table b 2;view v = ring ";
        fine(tables + "a with b on c0 = c1 keep c2;", 3);
        faultAt(tables + "a with b on !c1 = c1 keep c2;", 2);
        faultAt(tables + "a with b on c0 = !c2 keep c2;", 2);
        faultAt(tables + "a with b on c0 = c1 keep !c3;", 2);
        fine(tables + "b with a on c1 = c0 keep c2,c1;", 3);
        faultAt(tables + "b with a on c1 = !c1 keep c2,c1;", 2);
        faultAt(tables + "b with a on c1 = c0 keep c2,!c3;", 2);
        fine(tables + "b with b on c1 = c1 keep c3,c2;", 3);
        faultAt(tables + "a with a on c0 = c0 keep !c2;", 2);
    }

    /** The columns of a view as R are those that its line makes. */
    static void promise4ColumnsOfViewsAsR() {
        String tables = "table a 2;view p = project a c0,c1,1;view g = group p by c2 count;view j = join a a on c0=c0;"
                + "view r = ring a with g on c0 = c0 keep c2,c3;view q = project a c0;";
        fine(tables + "view v = select p where c2 = 1;view w = select g where c1 = 1;view x = select j where c2 = 1;"
                + "view y = select r where c1 = 1;view z = select q where c0 = 1;", 11);
        faultAt(tables + "view v = select p where !c3 = 1;", 2);
        faultAt(tables + "view v = select g where !c2 = 1;", 2);
        faultAt(tables + "view v = select j where !c3 = 1;", 2);
        faultAt(tables + "view v = select r where !c2 = 1;", 2);
        faultAt(tables + "view v = select q where !c1 = 1;", 2);
    }

    /** "FAULT, the first along the text", whatever its kind */
    static void promise4TheFirstFaultAlongTheText() {
        faultAt("table a !0;table a ?", 2);
        faultAt("table a 1;table !a 0;?", 3);
        faultAt("table a 1;view v = distinct a;!table b 1;?;table", 6);
        faultAt("table a 1;table b 2;view v = union a !b ?", 5);
        faultAt("table d 3;view v = join d d on c0 = c0!;?", 5);
        faultAt("table a !?;table b 0;", 1);
        faultAt("table a 1;view v = select !b where c9 = c8;", 3);
        faultAt(lines(16, 0) + "!table ?;", 4);
    }
}
