// One method a promise: ordinary inputs, the edges that the document names, wrong inputs.
public final class PromisesTest {
  private static final int BAD = BoardStones.BAD, STATE = BoardStones.STATE, FULL = BoardStones.FULL, NONE = BoardStones.NONE;
  private static int wrong = 0;
  private static String promise = "";

  private static void due(String call, long got, long want) {
    if (got != want) {
      wrong++;
      System.out.println(promise + ": " + call + " answered " + got + ", due is " + want);
    }
  }

  private static void type(BoardStones x, String text) {
    for (int i = 0; i < text.length(); i++) x.type(text.charAt(i));
  }

  private static int read(BoardStones x, String text) {
    x.clear();
    type(x, text);
    return x.house();
  }

  private static BoardStones told(String text) {
    BoardStones x = new BoardStones();
    int items = 0;
    for (int i = 0; i < text.length(); i++) if (text.charAt(i) == ';') items++;
    due("house of '" + text + "'", read(x, text), items);
    return x;
  }

  private static void fault(String text, int place) {
    BoardStones x = new BoardStones();
    due("house of '" + text + "'", read(x, text), -10 - place);
    due("count(6) behind that", x.count(6), text.length());
  }

  private static void newObject() {
    BoardStones x = new BoardStones();
    int[] counts = {4, 0, 0, 0, 0, 0, 0};
    for (int what = 0; what < counts.length; what++) due("count(" + what + ")", x.count(what), counts[what]);
    int[] nows = {0, NONE, NONE, 0, 0};
    for (int what = 0; what < nows.length; what++) due("now(" + what + ")", x.now(what), nows[what]);
    due("trace", x.trace(), 0);
    due("undo", x.undo(), STATE);
    due("back(0)", x.back(0), STATE);
    due("who", x.who(), 0);
    due("ask", x.ask(), NONE);
    due("director(0, 0)", x.director(0, 0), BAD);
    due("path(0, 0)", x.path(0, 0), BAD);
    due("child(0, 0)", x.child(0, 0), BAD);
    due("calls(3)", x.calls(3), STATE);
    due("calls(4)", x.calls(4), BAD);
  }

  private static void typeCall() {
    BoardStones x = new BoardStones();
    due("type(-1)", x.type(-1), BAD);
    due("type(256)", x.type(256), BAD);
    due("type(0)", x.type(0), 1);
    due("type(255)", x.type(255), 2);
    for (int i = 3; i <= 150; i++) due("type " + i, x.type(' '), i);
    due("type beyond", x.type(' '), FULL);
    due("type(256) when full", x.type(256), BAD);
    due("type(-1) when full", x.type(-1), BAD);
    due("count(6)", x.count(6), 150);
  }

  private static void clearCall() {
    BoardStones x = new BoardStones();
    due("clear", x.clear(), 0);
    type(x, "r2;");
    due("clear", x.clear(), 3);
    due("clear", x.clear(), 0);
    due("type", x.type('r'), 1);
    type(x, " ".repeat(200));
    due("clear", x.clear(), 150);
  }

  private static void houseReads() {
    BoardStones x = told("r3;p0 2 4;d7 3 1 2;d8 2 0 0;f1 0;c5;");
    due("count(6)", x.count(6), 0);
    due("count(0)", x.count(0), 3);
    due("count(1)", x.count(1), 1);
    due("count(2)", x.count(2), 2);
    due("count(3)", x.count(3), 1);
    due("friends", x.director(0, 6), 2);
    due("blanks", read(x, "  r  3 ; p 0   2 4 ;d7 3 1 2;  "), 3);
    due("nothing", read(x, ""), 0);
    due("rooms untold", x.count(0), 4);
    due("blanks alone", read(x, "   "), 0);
    due("edges", read(x, "r8;p0 7 9;p7 0 0;d1 0 0 0;d40 30 5 7;c1;c9;"), 7);
    due("rooms told", x.count(0), 8);
    due("rooms untold behind told", read(x, "c1;"), 1);
    due("rooms", x.count(0), 4);
    due("most of all", read(x, "p0 1 1;".repeat(9) + "d1 0 0 0;".repeat(6) + "c1;".repeat(4)), 19);
    due("friends twice", read(x, "d1 0 0 0;d1 0 0 0;f0 1;f0 1;f1 0;"), 5);
    due("friends of 0", x.director(0, 6), 2);
    due("friends of 1", x.director(1, 6), 1);
    due("friends are gone", read(x, "d1 0 0 0;d1 0 0 0;"), 2);
    due("read twice", read(x, "d1 0 0 0;d1 0 0 0;"), 2);
    due("friends of 0", x.director(0, 6), 0);
  }

  private static void houseFaults() {
    fault("r", 1); fault("r ", 2); fault("r2", 2); fault("r2  ", 4); fault("p0", 2); fault("p0 1 2", 6);
    fault("r1;", 1); fault("r9;", 1); fault("r1", 1); fault("r10;", 1); fault("r02;", 1); fault("r 100;", 2);
    fault("r2 3;", 3); fault("r;", 1); fault(";", 0); fault("r2;;", 3); fault(" ;", 1); fault("7;", 0);
    fault("r2;r2;", 3); fault("c1;r2;", 3); fault("x1;", 0); fault("pp0 1 2;", 0); fault("c1;  rr2;", 5);
    fault("R2;", 0); fault("r2:", 2); fault("r2;\t", 3); fault("r\u00e92;", 1); fault("r-2;", 1); fault("r2,;", 2);
    fault("r2p0 1 1;", 2); fault("c1\u0000;", 2);
    fault("p4 0 0;", 1); fault("p0 4 0;", 3); fault("p0 0 0;", 3); fault("p0 1 10;", 5); fault("p00 1 1;", 1);
    fault("r2;p0 2 0;", 6); fault("p0 01 1;", 3); fault("p0 1 a;", 5); fault("p0 1;", 4); fault("p0 1 1 1;", 7);
    fault("p0 1 1000000000000000000002;", 5); fault("p4294967296 1 1;", 1); fault("p0 1 00;", 5);
    fault("p0 1 1;".repeat(9) + "p0 1 1;", 63); fault("p0 1 1;".repeat(9) + "px", 63);
    fault("d0 0 0 0;", 1); fault("d41 0 0 0;", 1); fault("d1 31 0 0;", 3); fault("d1 0 6 0;", 5); fault("d1 0 0 4;", 7);
    fault("r2;d1 0 0 2;", 10); fault("d1 0 0;", 6); fault("d1 0 0 0 0;", 9);
    fault("d1 0 0 0;".repeat(6) + " d1 0 0 0;", 55);
    fault("f0 1;", 1); fault("f", 1); fault("d1 0 0 0;f0 0;", 12); fault("d1 0 0 0;f0 1;", 12); fault("d1 0 0 0;f1 0;", 10);
    fault("d1 0 0 0;f0 1;d1 0 0 0;", 12); fault("d1 0 0 0;f 0", 12); fault("d1 0 0 0;d1 0 0 0;f1 1;", 21);
    fault("c0;", 1); fault("c10;", 1); fault("c;", 1); fault("c1;".repeat(4) + "c1;", 12); fault("c1 ", 3);
    fault("c1;@;r2;", 3); fault("@", 0); fault("c100", 1); fault("c1 100;", 3);
  }

  private static void houseChangesNothingOnFault() {
    BoardStones x = told("d7 3 1 2;d7 3 1 2;f0 1;p0 2 1;c5;");
    x.goes(0, 0); x.hears(0, 1); x.keep(1); x.offends(0, 0, 2);
    due("fault", read(x, "r2;p0 1 1;d1 0 0 0;c0;"), -10 - 20);
    due("again", x.house(), -10 - 20);
    due("rooms", x.count(0), 4);
    due("steps", x.path(0, 2), 1);
    due("directors", x.count(2), 2);
    due("room", x.director(0, 3), 0);
    due("friends", x.director(0, 6), 2);
    due("heard", x.count(4), 1);
    due("hurt", x.child(0, 1), 2);
    due("undo", x.undo(), 1);
    due("back", x.back(1), 6);
    x.mark(0, 0);
    due("anew", read(x, "d7 4 1 2;d7 3 1 2;p0 2 1;c5;"), 4);
    due("heard", x.count(4), 0);
    due("undone", x.count(5), 0);
    due("undo", x.undo(), STATE);
    due("back(0)", x.back(0), STATE);
    due("back(1)", x.back(1), STATE);
    due("room", x.director(0, 3), 2);
    due("stone", x.director(0, 1), 4);
    due("weary", x.director(0, 4), 0);
    due("hurt", x.child(0, 1), 0);
    due("trace goes on", x.trace(), 1);
  }

  private static void houseForgetsDeeds() {
    BoardStones x = told("d7 3 1 0;p0 1 1;c1;c9;");
    x.goes(0, 0); x.offends(0, 0, 1); x.offends(0, 1, 4); x.calls(1); x.keep(0);
    read(x, "d7 3 1 0;p0 1 1;c2;c9;");
    due("back(0)", x.back(0), STATE);
    due("hurt", x.child(1, 1), 0);
    due("laughs", x.now(0), 0);
    due("weary", x.director(0, 4), 0);
    due("looked into", x.director(0, 5), 0);
    due("stone", x.director(0, 1), 3);
  }

  private static void houseCall() {
    houseReads();
    houseFaults();
    houseChangesNothingOnFault();
    houseForgetsDeeds();
  }

  private static void pathCall() {
    BoardStones x = told("p3 1 4;p1 3 0;d7 3 0 0;d7 4 0 0;d4 4 0 0;d3 4 0 0;");
    int[][] want = {{3, 1, 4, 1}, {1, 3, 0, 7}};
    for (int p = 0; p < 2; p++) for (int what = 0; what < 4; what++) due("path(" + p + ", " + what + ")", x.path(p, what), want[p][what]);
    due("path(-1, 0)", x.path(-1, 0), BAD);
    due("path(2, 0)", x.path(2, 0), BAD);
    due("path(9, 0)", x.path(9, 0), BAD);
    due("path(0, -1)", x.path(0, -1), BAD);
    due("path(0, 4)", x.path(0, 4), BAD);
    x.shifts(0, 1);
    x.shifts(0, 1);
    due("who may go it then", x.path(1, 3), 7);
    due("who may go it then", x.path(0, 3), 1);
    due("shifts", x.shifts(1, 2), 5);
    due("who may go it then", x.path(1, 3), 3);
  }

  private static void directorCall() {
    BoardStones x = told("p0 1 3;p1 2 4;d8 4 2 0;d8 5 0 2;d7 4 1 3;f0 2;c1;");
    int[][] want = {{8, 4, 2, 0, 0, 0, 4, 7, 1}, {8, 5, 0, 2, 0, 0, 0, 4, 0}, {7, 4, 1, 3, 0, 0, 1, 8, 0}};
    for (int d = 0; d < 3; d++) for (int what = 0; what < 9; what++) due("director(" + d + ", " + what + ")", x.director(d, what), want[d][what]);
    due("director(-1, 0)", x.director(-1, 0), BAD);
    due("director(3, 0)", x.director(3, 0), BAD);
    due("director(6, 0)", x.director(6, 0), BAD);
    due("director(0, -1)", x.director(0, -1), BAD);
    due("director(0, 9)", x.director(0, 9), BAD);
    x.goes(0, 0);
    x.offends(0, 0, 1);
    int[] then = {8, 5, 2, 1, 12, 1, 4, 3, 0};
    for (int what = 0; what < 9; what++) due("director(0, " + what + ") then", x.director(0, what), then[what]);
    BoardStones light = told("d1 0 0 0;d1 1 0 0;d2 1 0 0;d1 2 0 0;p0 1 0;");
    due("dances", light.director(0, 8), 1);
    due("dances", light.director(1, 8), 0);
    due("dances", light.director(2, 8), 1);
    due("reach of one too weak", light.director(3, 7), 1);
    due("reach of one just able", light.director(1, 7), 3);
  }

  private static void childCall() {
    BoardStones x = told("c9;c1;d1 0 0 0;");
    x.offends(0, 0, 8);
    due("child(0, 0)", x.child(0, 0), 9);
    due("child(0, 1)", x.child(0, 1), 8);
    due("child(1, 0)", x.child(1, 0), 1);
    due("child(1, 1)", x.child(1, 1), 0);
    due("child(2, 0)", x.child(2, 0), BAD);
    due("child(4, 0)", x.child(4, 0), BAD);
    due("child(-1, 0)", x.child(-1, 0), BAD);
    due("child(0, 2)", x.child(0, 2), BAD);
    due("child(0, -1)", x.child(0, -1), BAD);
  }

  private static void goesCall() {
    BoardStones x = told("p0 1 5;p1 2 6;p1 0 5;d15 10 0 0;d40 30 0 2;");
    due("goes(0, 0)", x.goes(0, 0), 1);
    due("weary", x.director(0, 4), 50);
    due("too steep", x.goes(0, 1), STATE);
    due("back by the other", x.goes(0, 2), 0);
    due("weary", x.director(0, 4), 100);
    due("not there", x.goes(0, 1), STATE);
    due("not there", x.goes(1, 0), STATE);
    due("goes(2, 0)", x.goes(2, 0), BAD);
    due("goes(-1, 0)", x.goes(-1, 0), BAD);
    due("goes(0, 3)", x.goes(0, 3), BAD);
    due("goes(0, -1)", x.goes(0, -1), BAD);
    due("undone", x.count(5), 2);
    for (int i = 0; i < 55; i++) x.goes(1, 1);
    due("weary", x.director(1, 4), 9900);
    due("room", x.director(1, 3), 1);
    due("goes", x.goes(1, 1), 2);
    due("weary at most", x.director(1, 4), 9999);
    due("way is no less for it", x.way(1, 1, 0), 180);
    due("rests", x.rests(1), 9999);
  }

  private static void restsCall() {
    BoardStones x = told("p0 1 5;d15 10 0 0;d15 0 0 0;");
    due("rests", x.rests(0), STATE);
    x.goes(0, 0);
    x.goes(1, 0);
    due("rests", x.rests(0), 50);
    due("rests", x.rests(0), STATE);
    due("without a stone", x.rests(1), STATE);
    due("weary", x.director(0, 4), 0);
    due("rests(2)", x.rests(2), BAD);
    due("rests(-1)", x.rests(-1), BAD);
    due("undone", x.count(5), 3);
  }

  private static void offendsCall() {
    BoardStones x = told("c5;c1;d1 30 0 0;d1 0 0 3;");
    due("offends", x.offends(0, 0, 4), 4);
    due("stone", x.director(0, 1), 30);
    due("offends", x.offends(1, 0, 1), 0);
    due("stone of who did it last", x.director(1, 1), 1);
    due("looked into", x.director(1, 5), 1);
    due("stone of the other one", x.director(0, 1), 30);
    due("looked into", x.director(0, 5), 0);
    due("hurt", x.child(0, 1), 0);
    due("offends(0, 0, 0)", x.offends(0, 0, 0), BAD);
    due("offends(0, 0, 10)", x.offends(0, 0, 10), BAD);
    due("offends(0, 0, -1)", x.offends(0, 0, -1), BAD);
    due("offends(2, 0, 1)", x.offends(2, 0, 1), BAD);
    due("offends(-1, 0, 1)", x.offends(-1, 0, 1), BAD);
    due("offends(0, 2, 1)", x.offends(0, 2, 1), BAD);
    due("offends(0, -1, 1)", x.offends(0, -1, 1), BAD);
    due("undone", x.count(5), 2);
    for (int i = 0; i < 75; i++) due("offends", x.offends(0, 1, 9), 0);
    due("stone at most", x.director(0, 1), 99);
    due("looked into", x.director(0, 5), 75);
    due("edge where he is", x.edge(0, 0), 60);
    due("undo", x.undo(), 9);
    due("stone", x.director(0, 1), 99);
    due("looked into", x.director(0, 5), 74);
  }

  private static void shiftsCall() {
    BoardStones x = told("c1;d1 2 0 0;d1 0 0 0;d1 30 0 1;d1 30 0 1;");
    due("shifts(0, 1)", x.shifts(0, 1), 1);
    due("shifts(0, 1)", x.shifts(0, 1), 2);
    due("none to come", x.shifts(0, 1), STATE);
    due("stone", x.director(0, 1), 0);
    due("not in one room", x.shifts(2, 1), STATE);
    due("alike", x.shifts(1, 1), BAD);
    due("alike and none", x.shifts(0, 0), BAD);
    due("shifts(4, 0)", x.shifts(4, 0), BAD);
    due("shifts(0, 4)", x.shifts(0, 4), BAD);
    due("shifts(-1, 0)", x.shifts(-1, 0), BAD);
    due("shifts(0, -1)", x.shifts(0, -1), BAD);
    due("undone", x.count(5), 2);
    for (int i = 0; i < 68; i++) x.offends(3, 0, 1);
    due("98 there", x.shifts(2, 3), 99);
    due("99 there", x.shifts(2, 3), STATE);
    due("stones", x.now(4), 2 + 29 + 99);
  }

  private static void callsCall() {
    // 1 laughs with one friend, 2 needs two, 3 (gravity 0) needs one all the same, 4 has no friend.
    BoardStones x = told("p0 1 0;c1;d9 5 5 0;d9 6 1 1;d9 7 2 1;d9 8 0 2;d9 9 0 2;f0 1;f1 2;f2 0;f3 2;");
    due("nobody there", x.calls(3), STATE);
    due("calls(4)", x.calls(4), BAD);
    due("calls(-1)", x.calls(-1), BAD);
    due("calls(0)", x.calls(0), 15);
    due("who laughs", x.now(0), 15);
    due("stones", x.now(4), 9);
    due("all there laugh", x.calls(1), STATE);
    due("undone", x.count(5), 1);
    x.offends(0, 0, 1);
    due("stones", x.now(4), 10);
    due("calls(2)", x.calls(2), 31);
    due("stones of those who laughed ahead, too", x.now(4), 0);
    due("undo", x.undo(), 2);
    due("stones", x.now(4), 10);
    due("who laughs", x.now(0), 15);
    BoardStones y = told("d9 5 1 0;d9 6 2 1;d9 7 0 2;f0 1;f1 2;");
    due("calls(0)", y.calls(0), 1);
    due("from all who laugh", y.calls(2), 7);
  }

  private static void undoCall() {
    BoardStones x = told("p0 1 1;c2;d9 3 0 0;d9 3 0 0;");
    due("undo", x.undo(), STATE);
    x.goes(0, 0); x.goes(0, 0); x.rests(0); x.offends(0, 0, 1); x.offends(1, 0, 1); x.shifts(1, 0); x.calls(0);
    due("undone", x.count(5), 7);
    due("calls", x.undo(), 6);
    due("laughs", x.now(0), 0);
    due("stone 0", x.director(0, 1), 4);
    due("stone 1", x.director(1, 1), 3);
    due("shifts", x.undo(), 5);
    due("stone 0", x.director(0, 1), 3);
    due("stone 1", x.director(1, 1), 4);
    due("offends", x.undo(), 4);
    due("stone 1", x.director(1, 1), 3);
    due("looked into", x.director(1, 5), 0);
    due("hurt", x.child(0, 1), 1);
    due("offends", x.undo(), 3);
    due("hurt", x.child(0, 1), 0);
    due("rests", x.undo(), 2);
    due("weary", x.director(0, 4), 6);
    due("goes", x.undo(), 1);
    due("weary", x.director(0, 4), 3);
    due("room", x.director(0, 3), 1);
    x.hears(0, 1);
    due("goes", x.undo(), 0);
    due("room", x.director(0, 3), 0);
    due("what was heard stays", x.count(4), 1);
    due("undo", x.undo(), STATE);
    for (int i = 1; i <= 13; i++) x.offends(0, 0, 1);
    due("known", x.count(5), 10);
    for (int i = 9; i >= 0; i--) due("undo", x.undo(), i);
    due("older ones are lost", x.undo(), STATE);
    due("stone", x.director(0, 1), 4);
    due("hurt", x.child(0, 1), 1);
    x.goes(0, 9); x.rests(1); x.shifts(0, 0); x.calls(3); x.offends(0, 0, 0);
    due("what is refused is not known", x.count(5), 0);
  }

  private static void nowCall() {
    BoardStones x = told("r5;p0 1 2;p1 2 2;p3 1 5;d20 10 1 0;d9 4 2 2;d9 1 1 1;f0 1;f1 2;f0 2;");
    due("meet", x.now(1), 0);
    due("weary by it", x.now(2), 18);
    due("all", x.now(3), 1);
    due("stones", x.now(4), 15);
    due("now(-1)", x.now(-1), BAD);
    due("now(5)", x.now(5), BAD);
    BoardStones apart = told("p0 1 2;d9 1 0 0;d9 1 0 3;");
    due("meet", apart.now(1), NONE);
    due("weary by it", apart.now(2), NONE);
    due("all", apart.now(3), 3);
    BoardStones even = told("p0 1 3;p1 2 3;d9 0 0 2;d9 0 0 0;");
    due("lowest of several", even.now(1), 0);
    due("weary by it", even.now(2), 0);
    even.goes(0, 1);
    even.goes(0, 0);
    due("meet", even.now(1), 0);
    BoardStones least = told("d9 0 3 0;d9 0 1 0;d9 0 1 0;d9 0 1 1;f0 1;f1 2;f2 3;f0 3;");
    due("least of several sets", least.now(3), 1);
    least.calls(1);
    due("who laughs now is aside", least.now(3), 1);
    due("who laughs", least.now(0), 14);
    BoardStones pairs = told("d9 0 5 0;d9 0 5 0;d9 0 0 0;f0 1;f1 2;");
    due("all", pairs.now(3), 3);
    due("spread", pairs.spread(3), 7);
  }

  private static void wayCall() {
    BoardStones x = told("r6;p0 1 9;p0 2 3;p2 1 3;p1 3 0;p0 3 6;p4 3 8;p0 1 9;d20 10 0 0;d12 4 0 0;d9 0 0 0;d9 9 0 4;");
    int[][] weary = {{0, 60, 30, 60, 140, NONE}, {0, 24, 12, 24, 56, NONE}, {0, 0, 0, 0, 0, NONE}, {NONE, NONE, NONE, NONE, 0, NONE}};
    int[][] paths = {{0, 2, 1, 1, 2, NONE}, {0, 2, 1, 1, 2, NONE}, {0, 1, 1, 1, 2, NONE}, {NONE, NONE, NONE, NONE, 0, NONE}};
    for (int d = 0; d < 4; d++) {
      for (int room = 0; room < 6; room++) {
        due("way(" + d + ", " + room + ", 0)", x.way(d, room, 0), weary[d][room]);
        due("way(" + d + ", " + room + ", 1)", x.way(d, room, 1), paths[d][room]);
      }
    }
    due("way(4, 0, 0)", x.way(4, 0, 0), BAD);
    due("way(-1, 0, 0)", x.way(-1, 0, 0), BAD);
    due("way(0, 6, 0)", x.way(0, 6, 0), BAD);
    due("way(0, -1, 0)", x.way(0, -1, 0), BAD);
    due("way(0, 0, 2)", x.way(0, 0, 2), BAD);
    due("way(0, 0, -1)", x.way(0, 0, -1), BAD);
    due("nothing is changed", x.director(0, 4), 0);
    BoardStones pairOfRooms = told("r2;p0 1 3;d9 2 0 1;");
    due("two rooms", pairOfRooms.way(0, 0, 0), 6);
    due("two rooms", pairOfRooms.director(0, 7), 3);
    BoardStones chain = told("r8;p6 7 9;p5 6 9;p4 5 9;p3 4 9;p2 3 9;p1 2 9;p0 1 9;d39 30 0 0;");
    due("longest", chain.way(0, 7, 0), 30 * 9 * 7);
    due("longest", chain.way(0, 7, 1), 7);
  }

  private static void edgeCall() {
    BoardStones x = told("r5;p0 1 9;p0 2 3;p2 1 4;p1 3 0;d20 10 0 0;d14 5 0 0;d40 0 0 3;d3 30 0 3;d7 3 0 0;");
    int[][] want = {{60, 6, 7, 6, NONE}, {60, 5, 6, 5, NONE}, {36, 40, 36, 60, NONE}, {NONE, NONE, NONE, 60, NONE}, {60, 0, 1, 0, NONE}};
    for (int d = 0; d < 5; d++) for (int room = 0; room < 5; room++) due("edge(" + d + ", " + room + ")", x.edge(d, room), want[d][room]);
    due("by the most steps", told("p0 1 9;d12 2 0 0;").edge(0, 1), 1);
    due("edge(5, 0)", x.edge(5, 0), BAD);
    due("edge(-1, 0)", x.edge(-1, 0), BAD);
    due("edge(0, 5)", x.edge(0, 5), BAD);
    due("edge(0, -1)", x.edge(0, -1), BAD);
  }

  private static void spreadCall() {
    BoardStones x = told("d9 0 5 0;d9 0 1 0;d9 0 2 0;d9 0 0 1;f0 1;f1 2;f0 2;f3 2;");
    due("none", x.spread(0), 0);
    due("one", x.spread(1), 15);
    due("another", x.spread(2), 2);
    due("one by gravity 0", x.spread(4), 14);
    due("spread(8)", x.spread(8), 8);
    due("spread(10)", x.spread(10), 14);
    due("all", x.spread(15), 15);
    due("others", x.spread(16), BAD);
    due("others, too", x.spread(17), BAD);
    due("below 0", x.spread(-1), BAD);
    due("least", x.spread(Integer.MIN_VALUE), BAD);
    x.calls(1);
    due("whoever laughs now aside", x.spread(2), 2);
    due("nothing is changed", x.now(0), 8);
  }

  private static void pairCall() {
    BoardStones x = told("d9 3 0 0;d3 9 0 0;d8 8 0 0;d9 8 0 0;d9 8 0 0;");
    due("how many", x.pair(-1), 2);
    int[] want = {1, 0, 3, 2, NONE};
    for (int d = 0; d < 5; d++) due("pair(" + d + ")", x.pair(d), want[d]);
    due("pair(5)", x.pair(5), BAD);
    due("pair(-2)", x.pair(-2), BAD);
    // 0 could go with 1, but then 2 would be alone and there would be one pair fewer.
    BoardStones y = told("d9 5 0 0;d9 5 0 0;d5 9 0 0;d5 9 0 0;");
    due("how many", y.pair(-1), 2);
    int[] crossed = {2, 3, 0, 1};
    for (int d = 0; d < 4; d++) due("pair(" + d + ")", y.pair(d), crossed[d]);
    // 0 fits nobody; of 1, 2, 3 the lowest two.
    BoardStones z = told("d1 30 0 0;d9 5 0 0;d9 5 0 0;d9 5 0 0;");
    int[] alone = {NONE, 2, 1, NONE};
    for (int d = 0; d < 4; d++) due("pair(" + d + ")", z.pair(d), alone[d]);
    for (int i = 0; i < 5; i++) z.shifts(1, 0);
    due("how many", z.pair(-1), 1);
    BoardStones six = told("d9 5 0 0;".repeat(6));
    due("how many", six.pair(-1), 3);
    for (int d = 0; d < 6; d++) due("pair(" + d + ")", six.pair(d), d ^ 1);
    due("of nobody", new BoardStones().pair(-1), 0);
    due("of nobody", new BoardStones().pair(0), BAD);
  }

  private static void oddsCall() {
    BoardStones x = told("c1;c1;c1;c1;");
    int[][] want = {{81, 625}, {297, 625}, {513, 625}, {609, 625}, {1, 1}};
    for (int k = 0; k < 5; k++) for (int what = 0; what < 2; what++) due("odds(4, " + k + ")", x.odds(4, k, what), want[k][what]);
    due("never", x.odds(10, 0, 0), 0);
    due("never", x.odds(10, 0, 1), 1);
    due("never", x.odds(10, 3, 0), 0);
    due("surely", x.odds(10, 4, 0), 1);
    due("surely", x.odds(0, 0, 0), 1);
    due("surely", x.odds(0, 0, 1), 1);
    due("odds(1, 0, 0)", x.odds(1, 0, 0), 6561);
    due("odds(1, 0, 1)", x.odds(1, 0, 1), 10000);
    due("odds(5, 1, 0)", x.odds(5, 1, 0), 5);
    due("odds(5, 1, 1)", x.odds(5, 1, 1), 16);
    due("odds(-1, 0, 0)", x.odds(-1, 0, 0), BAD);
    due("odds(11, 0, 0)", x.odds(11, 0, 0), BAD);
    due("odds(0, -1, 0)", x.odds(0, -1, 0), BAD);
    due("odds(0, 5, 0)", x.odds(0, 5, 0), BAD);
    due("odds(0, 0, -1)", x.odds(0, 0, -1), BAD);
    due("odds(0, 0, 2)", x.odds(0, 0, 2), BAD);
    due("without children", new BoardStones().odds(10, 0, 0), 1);
    due("without children", new BoardStones().odds(10, 4, 1), 1);
    due("more than there are", told("c1;").odds(7, 2, 0), 1);
    due("one child", told("c1;").odds(7, 0, 0), 3);
    due("one child", told("c1;").odds(7, 0, 1), 10);
    due("two children", told("c1;c1;").odds(3, 1, 0), 91);
    due("two children", told("c1;c1;").odds(3, 1, 1), 100);
  }

  private static void hearsCall() {
    BoardStones x = told("p0 1 1;d1 0 0 0;");
    due("hears(1, 0)", x.hears(1, 0), BAD);
    due("hears(-1, 0)", x.hears(-1, 0), BAD);
    due("hears(0, 2)", x.hears(0, 2), BAD);
    due("hears(0, -1)", x.hears(0, -1), BAD);
    for (int i = 1; i <= 4; i++) due("hears", x.hears(0, i & 1), i);
    due("hears", x.hears(0, 1), FULL);
    due("BAD ahead of FULL", x.hears(0, 2), BAD);
    due("BAD ahead of FULL", x.hears(1, 1), BAD);
    due("count(4)", x.count(4), 4);
  }

  private static void forgetCall() {
    BoardStones x = told("p0 1 1;d1 1 0 0;");
    due("forget", x.forget(), 0);
    x.hears(0, 1);
    x.hears(0, 1);
    due("who", x.who(), 0);
    due("forget", x.forget(), 2);
    due("forget", x.forget(), 0);
    due("who", x.who(), 1);
    due("hears", x.hears(0, 0), 1);
  }

  private static void whoCall() {
    BoardStones x = told("p0 1 2;p2 3 6;d9 3 0 0;d9 4 0 0;d9 8 0 0;d9 7 0 3;");
    due("who", x.who(), 15);
    x.hears(0, 1);
    due("who", x.who(), 11);
    x.hears(1, 0);
    due("who", x.who(), 10);
    x.shifts(1, 0);
    due("as all are now", x.who(), 9);
    x.hears(0, 0);
    due("nobody", x.who(), 0);
    due("ask", x.ask(), NONE);
  }

  private static void askCall() {
    BoardStones x = told("p0 1 0;p0 1 7;p0 1 3;p0 1 2;p0 1 4;d9 1 0 0;d9 4 0 0;d9 6 0 0;d9 7 0 0;");
    due("ask", x.ask(), 4);
    x.hears(4, 1);
    due("ask", x.ask(), 1);
    x.forget();
    x.hears(4, 0);
    due("of 2 and 3", x.ask(), 2);
    x.hears(2, 1);
    due("fewer than 2", x.ask(), NONE);
    BoardStones y = told("p0 1 3;p0 1 3;d9 1 0 0;d9 7 0 0;d9 7 0 0;");
    due("of several the lowest", y.ask(), 0);
    y.hears(0, 0);
    due("none parts them", y.ask(), NONE);
    BoardStones none = told("d9 1 0 0;d9 7 0 0;");
    due("no paths", none.ask(), NONE);
  }

  private static void markCall() {
    BoardStones x = told("p1 3 1;c1;d9 2 4 3;d9 6 5 1;");
    x.offends(1, 0, 1);
    x.offends(1, 0, 1);
    x.offends(1, 0, 1);
    int[][] want = {{2, 6, 2, 12, 2, 5}, {9, 14, 6, 28, 7, 10}};
    for (int d = 0; d < 2; d++) for (int kind = 0; kind < 6; kind++) due("mark(" + kind + ", " + d + ")", x.mark(kind, d), want[d][kind]);
    x.calls(1);
    due("below 0", x.mark(2, 1), 0 - 3);
    due("below 0", x.mark(4, 1), 1 - 3);
    due("mark(-1, 0)", x.mark(-1, 0), BoardStones.NO);
    due("mark(6, 0)", x.mark(6, 0), BoardStones.NO);
    due("mark(0, -1)", x.mark(0, -1), BoardStones.NO);
    due("mark(0, 2)", x.mark(0, 2), BoardStones.NO);
  }

  private static void keepAndBackCalls() {
    BoardStones x = told("p0 1 1;c3;d9 3 0 0;d9 4 5 0;");
    due("back(0)", x.back(0), STATE);
    due("keep(2)", x.keep(2), BAD);
    due("keep(-1)", x.keep(-1), BAD);
    due("back(2)", x.back(2), BAD);
    due("back(-1)", x.back(-1), BAD);
    x.goes(0, 0);
    x.offends(0, 0, 2);
    due("keep(1)", x.keep(1), 7);
    due("keep is no deed", x.count(5), 2);
    x.offends(1, 0, 2);
    x.goes(0, 0);
    x.calls(0);
    x.hears(0, 1);
    x.mark(0, 0);
    due("keep(0)", x.keep(0), 0);
    due("back(1)", x.back(1), 7);
    due("room", x.director(0, 3), 1);
    due("weary", x.director(0, 4), 3);
    due("looked into", x.director(1, 5), 0);
    due("laughs", x.now(0), 0);
    due("hurt", x.child(0, 1), 2);
    due("undone", x.count(5), 2);
    due("what was heard stays", x.count(4), 1);
    due("trace stays", x.trace(), 1);
    due("undo", x.undo(), 1);
    due("hurt", x.child(0, 1), 0);
    due("undo", x.undo(), 0);
    due("room", x.director(0, 3), 0);
    due("again", x.back(1), 7);
    due("undone", x.count(5), 2);
    due("the other one", x.back(0), 0);
    due("laughs", x.now(0), 3);
    due("undone", x.count(5), 5);
    due("undo", x.undo(), 4);
    due("stones", x.now(4), 8);
    for (int i = 0; i < 12; i++) x.offends(0, 0, 1);
    due("keep(0) anew", x.keep(0), 12);
    for (int i = 0; i < 12; i++) x.offends(1, 0, 3);
    due("back(0)", x.back(0), 12);
    for (int i = 9; i >= 0; i--) due("undo", x.undo(), i);
    due("stones", x.now(4), 8);
    due("hurt", x.child(0, 1), 2);
  }

  private static void countCall() {
    BoardStones x = told("r7;p0 1 1;p1 2 3;d9 1 0 0;d9 1 0 0;d9 1 0 0;c1;c1;c1;c1;");
    x.hears(0, 1);
    for (int i = 0; i < 5; i++) x.shifts(i & 1, 1 - (i & 1));
    type(x, "abcdef");
    int[] want = {7, 2, 3, 4, 1, 5, 6};
    for (int what = 0; what < want.length; what++) due("count(" + what + ")", x.count(what), want[what]);
    due("count(7)", x.count(7), BAD);
    due("count(-1)", x.count(-1), BAD);
  }

  private static void traceCall() {
    BoardStones x = told("d9 1 0 0;");
    long[] added = {1, 11, 101, 1011, 10101, 100001};
    long sum = 0;
    for (int kind = 0; kind < 6; kind++) {
      x.mark(kind, 0);
      sum += added[kind];
      due("trace behind mark(" + kind + ", 0)", x.trace(), sum);
    }
    x.mark(6, 0);
    x.mark(3, 1);
    due("refused ones leave none", x.trace(), sum);
    x.keep(0);
    x.mark(0, 0);
    x.back(0);
    due("images do not keep it", x.trace(), sum + 1);
  }

  private static void constants() {
    due("BAD", BoardStones.BAD, -1);
    due("STATE", BoardStones.STATE, -2);
    due("FULL", BoardStones.FULL, -3);
    due("NONE", BoardStones.NONE, -9);
    due("NO", BoardStones.NO, -1000000);
  }

  private static void run(int number) {
    promise = "promise " + number;
    switch (number) {
      case 1: newObject(); constants(); break;
      case 2: typeCall(); break;
      case 3: clearCall(); break;
      case 4: houseCall(); break;
      case 5: pathCall(); break;
      case 6: directorCall(); break;
      case 7: childCall(); break;
      case 8: goesCall(); break;
      case 9: restsCall(); break;
      case 10: offendsCall(); break;
      case 11: shiftsCall(); break;
      case 12: callsCall(); break;
      case 13: undoCall(); break;
      case 14: nowCall(); break;
      case 15: wayCall(); break;
      case 16: edgeCall(); break;
      case 17: spreadCall(); break;
      case 18: pairCall(); break;
      case 19: oddsCall(); break;
      case 20: hearsCall(); break;
      case 21: forgetCall(); break;
      case 22: whoCall(); break;
      case 23: askCall(); break;
      case 24: markCall(); break;
      case 25: case 26: keepAndBackCalls(); break;
      case 27: countCall(); break;
      default: traceCall();
    }
  }

  public static void main(String[] args) {
    for (int number = 1; number <= 28; number++) run(number);
    System.out.println(wrong == 0 ? "all answers are as due" : wrong + " answers are not as due");
    if (wrong != 0) System.exit(1);
  }
}
