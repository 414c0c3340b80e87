import java.util.ArrayList;
import java.util.Arrays;
import java.util.List;

// Each sentence of the document that names a boundary case, with runs of its own on new objects.
//
// A run is a row of steps: 'letters' are typed byte by byte; name(numbers)=answer is a call and the answer that is
// due (BAD, STATE, FULL, NONE, NO, FAULT7 for -10 less 7, or a number; without = any answer is fine). Behind every
// call that is refused the runner looks that nothing has changed: it plays the run twice more, with that call and
// without, for each of the ways (LOOKS) in which what an object holds can be brought to light.
public final class EdgesTest {
  private static final int MOST_CALLS = 512;
  private static final int[] FAR_NUMBERS = {Integer.MIN_VALUE, Integer.MIN_VALUE + 1, -65536, -256, -32, -10, 32, 64, 256, 65536, 1 << 30, Integer.MAX_VALUE};
  private static final List<List<Step>> LOOKS = looks();

  private static int wrong = 0;
  private static int sentences = 0;
  private static String sentence = "";

  private static final class Step {
    final String name;
    final int[] numbers;
    final Long due;

    Step(String name, int[] numbers, Long due) {
      this.name = name;
      this.numbers = numbers;
      this.due = due;
    }

    boolean isRefused() {
      if (due == null) return false;
      if (name.equals("mark")) return due == BoardStones.NO;
      if (name.equals("house")) return due < 0;
      return due == BoardStones.BAD || due == BoardStones.STATE || due == BoardStones.FULL;
    }

    @Override public String toString() {
      return name + Arrays.toString(numbers).replace('[', '(').replace(']', ')');
    }
  }

  // ---- runs as texts

  private static List<Step> parse(String run) {
    List<Step> steps = new ArrayList<>();
    int at = 0;
    while (at < run.length()) {
      if (run.charAt(at) == ' ') {
        at++;
      } else if (run.charAt(at) == '\'') {
        int end = run.indexOf('\'', at + 1);
        for (int i = at + 1; i < end; i++) steps.add(new Step("type", new int[] {run.charAt(i)}, null));
        at = end + 1;
      } else {
        int end = run.indexOf(' ', at) < 0 ? run.length() : run.indexOf(' ', at);
        steps.add(parseStep(run.substring(at, end)));
        at = end;
      }
    }
    return steps;
  }

  private static Step parseStep(String text) {
    int equals = text.indexOf('=');
    String call = equals < 0 ? text : text.substring(0, equals);
    Long due = equals < 0 ? null : answer(text.substring(equals + 1));
    int open = call.indexOf('(');
    if (open < 0) return new Step(call, new int[0], due);
    String[] inside = call.substring(open + 1, call.length() - 1).split(",");
    return new Step(call.substring(0, open), Arrays.stream(inside).mapToInt(Integer::parseInt).toArray(), due);
  }

  private static long answer(String word) {
    switch (word) {
      case "BAD": return -1;
      case "STATE": return -2;
      case "FULL": return -3;
      case "NONE": return -9;
      case "NO": return -1000000;
      default: return word.startsWith("FAULT") ? -10 - Long.parseLong(word.substring(5)) : Long.parseLong(word);
    }
  }

  private static long play(BoardStones x, Step step) {
    int[] n = step.numbers;
    switch (step.name) {
      case "type": return x.type(n[0]);
      case "clear": return x.clear();
      case "house": return x.house();
      case "path": return x.path(n[0], n[1]);
      case "director": return x.director(n[0], n[1]);
      case "child": return x.child(n[0], n[1]);
      case "goes": return x.goes(n[0], n[1]);
      case "rests": return x.rests(n[0]);
      case "offends": return x.offends(n[0], n[1], n[2]);
      case "shifts": return x.shifts(n[0], n[1]);
      case "calls": return x.calls(n[0]);
      case "undo": return x.undo();
      case "now": return x.now(n[0]);
      case "way": return x.way(n[0], n[1], n[2]);
      case "edge": return x.edge(n[0], n[1]);
      case "spread": return x.spread(n[0]);
      case "pair": return x.pair(n[0]);
      case "odds": return x.odds(n[0], n[1], n[2]);
      case "hears": return x.hears(n[0], n[1]);
      case "forget": return x.forget();
      case "who": return x.who();
      case "ask": return x.ask();
      case "mark": return x.mark(n[0], n[1]);
      case "keep": return x.keep(n[0]);
      case "back": return x.back(n[0]);
      case "count": return x.count(n[0]);
      case "trace": return x.trace();
      default: throw new IllegalArgumentException(step.name);
    }
  }

  // ---- what is looked at

  private static List<List<Step>> looks() {
    List<List<Step>> looks = new ArrayList<>();
    for (String first : new String[] {"", "back(0) ", "back(1) "}) {
      for (int undone = 0; undone <= 10; undone++) looks.add(parse(first + "undo ".repeat(undone)));
    }
    for (String text : new String[] {"house", "';' house", "clear", "'c1;' house"}) looks.add(parse(text));
    looks.add(parse("forget"));
    looks.add(parse("hears(0,0)"));
    looks.add(parse("hears(0,1)"));
    return looks;
  }

  private static String lookAt(BoardStones x) {
    StringBuilder seen = new StringBuilder();
    for (int what = 0; what <= 6; what++) seen.append(x.count(what)).append(' ');
    for (int what = 0; what <= 4; what++) seen.append(x.now(what)).append(' ');
    for (int p = 0; p < x.count(1); p++) for (int what = 0; what <= 3; what++) seen.append(x.path(p, what)).append(' ');
    for (int d = 0; d < x.count(2); d++) for (int what = 0; what <= 8; what++) seen.append(x.director(d, what)).append(' ');
    for (int c = 0; c < x.count(3); c++) for (int what = 0; what <= 1; what++) seen.append(x.child(c, what)).append(' ');
    return seen.append(x.who()).append(' ').append(x.ask()).append(' ').append(x.trace()).toString();
  }

  private static String seenBehind(List<Step> steps, int from, int left, List<Step> look) {
    BoardStones x = new BoardStones();
    for (int i = 0; i <= from; i++) if (i != left) play(x, steps.get(i));
    StringBuilder seen = new StringBuilder();
    for (Step step : look) seen.append(play(x, step)).append(' ');
    return seen.append("| ").append(lookAt(x)).toString();
  }

  private static void nothingChangesBy(List<Step> steps, int at) {
    for (List<Step> look : LOOKS) {
      String with = seenBehind(steps, at, -1, look);
      String without = seenBehind(steps, at, at, look);
      if (!with.equals(without)) {
        report(steps.get(at) + " (step " + at + ") has changed something: seen behind " + look + " is " + with + ", due is " + without);
        return;
      }
    }
  }

  private static void report(String what) {
    wrong++;
    System.out.println("\"" + sentence + "\": " + what);
  }

  // ---- sentences

  private static void sentence(String words, String... runs) {
    sentence = words;
    sentences++;
    for (String run : runs) run(run);
  }

  private static void run(String text) {
    List<Step> steps = parse(text);
    if (steps.size() > MOST_CALLS) report("a run of " + steps.size() + " calls is too long to promise anything: " + text);
    runSteps(steps, text);
  }

  private static void runSteps(List<Step> steps, String text) {
    BoardStones x = new BoardStones();
    for (int i = 0; i < steps.size(); i++) {
      Step step = steps.get(i);
      long got = play(x, step);
      if (step.due != null && got != step.due) report(step + " (step " + i + ") answered " + got + ", due is " + step.due + " in " + text);
      if (step.isRefused()) nothingChangesBy(steps, i);
    }
  }

  /** Each of these numbers, and those far off, put where the call has a %, is refused behind the run. */
  private static void refused(String run, String call, String answer, int... numbers) {
    for (int number : numbers) run(run + " " + call.replace("%", Integer.toString(number)) + "=" + answer);
    for (int number : FAR_NUMBERS) run(run + " " + call.replace("%", Integer.toString(number)) + "=" + answer);
  }

  private static void unchanging(String run, String... calls) {
    for (String call : calls) {
      List<Step> steps = parse(run + " " + call);
      nothingChangesBy(steps, steps.size() - 1);
    }
  }

  // ---- 1: what is told

  private static final String NINE_PATHS = "p0 1 1;".repeat(9);
  private static final String SIX_DIRECTORS = "d1 0 0 0;".repeat(6);
  private static final String FOUR_CHILDREN = "c1;".repeat(4);

  private static void rooms() {
    sentence("ROOMS 0 .. as many as are told less 1",
        "'r2;d9 0 0 1;' house=2 calls(-1)=BAD calls(2)=BAD calls(1)=1",
        "'r8;d9 0 0 7;' house=2 calls(8)=BAD calls(7)=1",
        "'r3;d9 0 0 0;' house=2 way(0,3,0)=BAD way(0,2,0)=NONE edge(0,3)=BAD edge(0,2)=NONE");
    sentence("ROOMS (2 .. 8)",
        "'r0;' house=FAULT1", "'r1;' house=FAULT1", "'r2;' house=1 count(0)=2", "'r8;' house=1 count(0)=8", "'r9;' house=FAULT1",
        "'r10;' house=FAULT1 count(0)=4");
    sentence("ROOMS (4 at first)",
        "count(0)=4 calls(3)=STATE calls(4)=BAD",
        "'c1;' house=1 count(0)=4", "'r7;' house=1 count(0)=7 'c1;' house=1 count(0)=4 calls(4)=BAD", "'r7;' house=1 'c1;' house=1 'c1;' house=1 count(0)=4",
        "'r7;@' house=FAULT3 clear=4 'c1;' house=1 count(0)=4 calls(4)=BAD",
        "'p0 3 1;' house=1", "'p0 4 1;' house=FAULT3", "'d1 0 0 3;' house=1", "'d1 0 0 4;' house=FAULT7");
  }

  private static void paths() {
    sentence("PATHS 0 .. (9 at most)",
        "'" + NINE_PATHS + "' house=9 count(1)=9 path(8,2)=1 path(9,2)=BAD path(-1,2)=BAD",
        "'" + NINE_PATHS + "p0 1 1;' house=FAULT63 count(1)=0");
    sentence("two unlike ROOMS", "'p0 0 1;' house=FAULT3", "'p3 3 1;' house=FAULT3", "'p3 0 1;' house=1 path(0,0)=3 path(0,1)=0");
    sentence("more than one PATH may join two",
        "'p0 1 3;p0 1 5;p1 0 3;d9 3 0 0;' house=4 path(1,2)=5 path(2,0)=1 path(2,1)=0 goes(0,0)=1 goes(0,2)=0 goes(0,1)=1 director(0,4)=33");
    sentence("a PATH's ROOMS are there",
        "'r2;p0 1 1;' house=2", "'r2;p2 1 1;' house=FAULT4", "'r2;p1 2 1;' house=FAULT6", "'r8;p7 0 1;' house=2 path(0,0)=7", "'r8;p8 0 1;' house=FAULT4");
    sentence("STEPS (0 .. 9)", "'p0 1 0;' house=1 path(0,2)=0", "'p0 1 9;' house=1 path(0,2)=9", "'p0 1 10;' house=FAULT5");
  }

  private static void directors() {
    sentence("DIRECTORS 0 .. (6 at most)",
        "'" + SIX_DIRECTORS + "' house=6 count(2)=6 director(5,0)=1 director(6,0)=BAD director(-1,0)=BAD",
        "'" + SIX_DIRECTORS + "d1 0 0 0;' house=FAULT54 count(2)=0");
    sentence("STRENGTH (1 .. 40)",
        "'d0 0 0 0;' house=FAULT1", "'d1 0 0 0;' house=1 director(0,0)=1", "'d40 0 0 0;' house=1 director(0,0)=40", "'d41 0 0 0;' house=FAULT1");
    sentence("STONE (0 .. 30)", "'d1 0 0 0;' house=1 director(0,1)=0", "'d1 30 0 0;' house=1 director(0,1)=30", "'d1 31 0 0;' house=FAULT3");
    sentence("GRAVITY (0 .. 5)", "'d1 1 0 0;' house=1 director(0,2)=0", "'d1 1 5 0;' house=1 director(0,2)=5", "'d1 1 6 0;' house=FAULT5");
    sentence("ROOM",
        "'d1 1 0 0;' house=1 director(0,3)=0", "'r2;d1 1 0 1;' house=2 director(0,3)=1", "'r2;d1 1 0 2;' house=FAULT10",
        "'r8;d1 1 0 7;' house=2 director(0,3)=7", "'r8;d1 1 0 8;' house=FAULT10");
    sentence("FRIENDS: some two DIRECTORS",
        "'d1 0 0 0;d1 0 0 0;d1 0 0 0;f0 2;' house=4 director(0,6)=4 director(1,6)=0 director(2,6)=1",
        "'d1 0 0 0;d1 0 0 0;f0 1;f1 0;f0 1;' house=5 director(0,6)=2 director(1,6)=1",
        "'" + SIX_DIRECTORS + "f5 0;' house=7 director(5,6)=1 director(0,6)=32",
        "'d1 0 0 0;d1 0 0 0;f0 1;' house=3 'd1 0 0 0;d1 0 0 0;' house=2 director(0,6)=0 director(1,6)=0 'd1 0 0 0;d1 0 0 0;' house=2 director(0,6)=0 director(1,6)=0",
        "'d1 0 0 0;d1 0 0 0;f0 1;@' house=FAULT23 clear=24 'd1 0 0 0;d1 0 0 0;' house=2 director(0,6)=0 director(1,6)=0");
  }

  private static void children() {
    sentence("CHILDREN 0 .. (4 at most)",
        "'" + FOUR_CHILDREN + "' house=4 count(3)=4 child(3,0)=1 child(4,0)=BAD child(-1,0)=BAD",
        "'" + FOUR_CHILDREN + "c1;' house=FAULT12 count(3)=0");
    sentence("NERVE (1 .. 9)", "'c0;' house=FAULT1", "'c1;' house=1 child(0,0)=1", "'c9;' house=1 child(0,0)=9", "'c10;' house=FAULT1");
  }

  // ---- 1: the text

  private static void text() {
    String all = NINE_PATHS + SIX_DIRECTORS + FOUR_CHILDREN;
    sentence("a text (150 bytes at most)",
        "'" + " ".repeat(149) + "' type(32)=150 type(32)=FULL count(6)=150 house=0 count(6)=0 type(32)=1",
        "'" + all + " ".repeat(150 - all.length()) + "' type(59)=FULL house=19",
        "'" + " ".repeat(150 - all.length()) + all + "' type(59)=FULL house=19",
        "'" + " ".repeat(149) + "c' type(49)=FULL house=FAULT150",
        "'" + " ".repeat(149) + "@' house=FAULT149");
    sentence("blanks (32) between TOKENS",
        "'  r  3  ;  p  0  1  2  ;  c  9  ;  ' house=3 count(0)=3 path(0,2)=2 child(0,0)=9",
        "'r3;c9;' house=2", "'c 1 0;' house=FAULT4", "'d1 0 0 0;d10 0 0;' house=FAULT16", "'c\t1;' house=FAULT1", "'c1;\n' house=FAULT3",
        "'c1\r;' house=FAULT2", "'\u00a0c1;' house=FAULT0", "'\u001fc1;' house=FAULT0", "'!c1;' house=FAULT0");
    sentence("an empty text tells nobody", "house=0 count(0)=4", "'   ' house=0 count(6)=0", "'r5;c1;' house=2 house=0 count(0)=4 count(3)=0");
    sentence("ITEMS, each letters and what is told, ended by ;",
        "';' house=FAULT0", "'c1;;' house=FAULT3", "'c1 c1;' house=FAULT3", "'c1c1;' house=FAULT2", "'c1 1;' house=FAULT3", "'p0 1;' house=FAULT4",
        "'d1 0 0;' house=FAULT6", "'d1 0 0 0 0;' house=FAULT9", "'c;' house=FAULT1", "'r;' house=FAULT1", "'1;' house=FAULT0", "'c c1;' house=FAULT2",
        "'99 1;' house=FAULT0", "'p0 1 a;' house=FAULT5", "'p0 1 ab;' house=FAULT5", "'p0 1 ;;' house=FAULT5", "'c1 ab' house=FAULT3");
    sentence("r N (ROOMS; the first of all, if it is told)",
        "' r5;c1;' house=2 count(0)=5", "'c1;r5;' house=FAULT3", "'r5;r5;' house=FAULT3", "'p0 1 1;r2;' house=FAULT7", "'r5;c1;r' house=FAULT6");
    sentence("f A B (two unlike DIRECTORS told ahead are FRIENDS)",
        "'f0 1;' house=FAULT1", "'d1 0 0 0;f0 0;' house=FAULT12", "'d1 0 0 0;f0 1;d1 0 0 0;' house=FAULT12", "'d1 0 0 0;f1 0;' house=FAULT10",
        "'d1 0 0 0;d1 0 0 0;f1 1;' house=FAULT21", "'d1 0 0 0;d1 0 0 0;f1 0;d1 0 0 0;' house=4 director(0,6)=2");
  }

  private static void tokens() {
    sentence("TOKENS are letters a .. z side by side",
        "'`;' house=FAULT0", "'{;' house=FAULT0", "'a;' house=FAULT0", "'z;' house=FAULT0", "'C1;' house=FAULT0", "'c1;cc1;' house=FAULT3",
        "'c1;ca' house=FAULT3", "'c1;pz0 1 1;' house=FAULT3", "'cZ1;' house=FAULT1", "'c{1;' house=FAULT1", "'c`1;' house=FAULT1");
    sentence("TOKENS are NUMBERS", "'c/;' house=FAULT1", "'c:;' house=FAULT1", "'c1/;' house=FAULT2", "'c1:;' house=FAULT2", "'c-1;' house=FAULT1",
        "'c+1;' house=FAULT1", "'c9;' house=1", "'p0 1 0;' house=1");
    sentence("TOKENS are ;", "'c1:' house=FAULT2", "'c1<' house=FAULT2", "'c1 ;' house=1", "'c1;' house=1");
    sentence("of a byte that begins none, that TOKEN's",
        "type(0)=1 house=FAULT0", "type(255)=1 house=FAULT0", "'c1;' type(0)=4 house=FAULT3", "'c1' type(128) ';' house=FAULT2",
        "'c' type(39) '1;' house=FAULT1", "'c1;  \u007fc1;' house=FAULT5");
    sentence("a NUMBER above 99, that TOKEN's",
        "'d100 0 0 0;' house=FAULT1", "'d 100' house=FAULT2", "'c1 100;' house=FAULT3", "'c1;100' house=FAULT3",
        "'c4294967297;' house=FAULT1", "'p0 1 18446744073709551617;' house=FAULT5", "'c" + "1".repeat(149) + "' house=FAULT1");
    sentence("a NUMBER with a 0 ahead of others, that TOKEN's",
        "'c01;' house=FAULT1", "'p00 1 1;' house=FAULT1", "'p0 01 1;' house=FAULT3", "'p0 1 00;' house=FAULT5", "'p0 1 0;' house=1",
        "'d10 10 0 0;' house=1 director(0,0)=10", "'c 001' house=FAULT2");
    sentence("the text's length, if it ends too early",
        "'c' house=FAULT1", "'c ' house=FAULT2", "'c1' house=FAULT2", "'c1   ' house=FAULT5", "'p' house=FAULT1", "'p0' house=FAULT2", "'p0 1' house=FAULT4",
        "'p0 1 1' house=FAULT6", "'d1 0 0 0' house=FAULT8", "'d1 0 0 ' house=FAULT7", "'r' house=FAULT1", "'r2' house=FAULT2", "'f' house=FAULT1",
        "'d1 0 0 0;d1 0 0 0;f0 1' house=FAULT22", "'d1 0 0 0;d1 0 0 0;f0' house=FAULT20");
  }

  private static void faults() {
    sentence("letters that begin no ITEM", "'x1;' house=FAULT0", "'c1;e1;' house=FAULT3", "'rr2;' house=FAULT0", "'c1; pp' house=FAULT4", "'b' house=FAULT0",
        "'q0 1 1;' house=FAULT0", "'g0 1;' house=FAULT0", "'s2;' house=FAULT0");
    sentence("r behind another ITEM", "'c1; r2;' house=FAULT4", "'r2;r' house=FAULT3");
    sentence("a tenth PATH", "'" + NINE_PATHS + " p' house=FAULT64", "'" + NINE_PATHS + "c1;p9 9 9;' house=FAULT66");
    sentence("a seventh DIRECTOR", "'" + SIX_DIRECTORS + " d' house=FAULT55", "'" + SIX_DIRECTORS + "c1;d99 0 0 0;' house=FAULT57");
    sentence("a fifth CHILD", "'" + FOUR_CHILDREN + " c' house=FAULT13", "'" + FOUR_CHILDREN + "p0 1 1;c0;' house=FAULT19");
    sentence("B that is A", "'p2  2 1;' house=FAULT4", "'p2 2' house=FAULT3", "'d1 0 0 0;d1 0 0 0;f0  0;' house=FAULT22");
    sentence("a NUMBER beyond what it may be", "'c1;c  0;' house=FAULT6", "'r2;d41' house=FAULT4", "'p0 1 99;' house=FAULT5", "'r 9' house=FAULT2");
    sentence("the place of the first byte of the first TOKEN that can't stand there",
        "'c0;r2;x' house=FAULT1", "'c1;x;c0;' house=FAULT3", "'c1;c 010 @' house=FAULT5", "'p4 4 10;' house=FAULT1", "'p0 0 10;' house=FAULT3");
  }

  // ---- 2: what is done

  private static void begin() {
    String house = "'p0 1 2;c5;c1;c5;d9 3 1 0;d9 3 1 1;f0 1;' house=7 ";
    String atFirst = "director(0,4)=0 director(1,4)=0 child(0,1)=0 child(1,1)=0 child(2,1)=0 director(0,5)=0 director(1,5)=0 now(0)=0 "
        + "director(0,3)=0 director(0,1)=3 director(1,3)=1 director(1,1)=3 ";
    String deeds = "goes(0,0)=1 offends(0,1,1)=0 offends(0,0,3)=3 offends(0,2,4)=4 shifts(1,0)=5 calls(1)=3 ";
    sentence("At first nobody is WEARY, no CHILD is HURT, nobody was LOOKED INTO, nobody LAUGHS.", house + atFirst, house + deeds + house + atFirst);
  }

  private static void going() {
    sentence("A DIRECTOR MAY go a PATH, if his STONE and its STEPS are no more than his STRENGTH, together",
        "'p0 1 4;d9 5 0 0;d9 6 0 0;d8 5 0 0;' house=4 path(0,3)=1 goes(1,0)=STATE goes(2,0)=STATE goes(0,0)=1",
        "'p0 1 0;d5 5 0 0;d5 6 0 0;' house=3 path(0,3)=1 goes(1,0)=STATE goes(0,0)=1",
        "'p0 1 9;d39 30 0 0;d38 30 0 0;' house=3 path(0,3)=1 goes(1,0)=STATE goes(0,0)=1");
    sentence("WEARY by STONE times STEPS",
        "'p0 1 0;p0 1 9;d40 30 0 0;d9 0 0 0;' house=4 goes(0,0)=1 director(0,4)=0 goes(0,1)=0 director(0,4)=270 goes(1,1)=1 director(1,4)=0");
    sentence("WEARY (9999 at most)",
        "'p0 1 9;d40 30 0 0;' house=2 " + "goes(0,0)=1 goes(0,0)=0 ".repeat(18) + "goes(0,0)=1 director(0,4)=9990 goes(0,0)=0 director(0,4)=9999 "
            + "goes(0,0)=1 director(0,4)=9999 undo=9 director(0,4)=9999 undo=8 director(0,4)=9990 rests(0)=9990 director(0,4)=0",
        "'p0 1 9;d40 30 0 0;d1 0 0 1;' house=3 " + "goes(0,0)=1 goes(0,0)=0 ".repeat(18) + "goes(0,0)=1 " + "shifts(0,1) ".repeat(29)
            + "director(0,1)=1 goes(0,0)=0 director(0,4)=9999 rests(0)=9999");
    sentence("GONE: from his ROOM by a PATH of it that he MAY go, to the other one",
        "'p0 1 1;p2 1 1;d9 1 0 0;' house=3 goes(0,1)=STATE goes(0,0)=1 goes(0,1)=2 goes(0,0)=STATE goes(0,1)=1 goes(0,0)=0 director(0,3)=0 director(0,4)=4");
    sentence("RESTED: he is not WEARY",
        "'p0 1 1;d9 1 0 0;d9 2 0 0;' house=3 goes(0,0)=1 goes(1,0)=1 rests(0)=1 director(0,4)=0 director(1,4)=2 rests(0)=STATE rests(1)=2");
  }

  private static void offending() {
    sentence("HURT by n (1 .. 9) more",
        "'c9;d1 0 0 0;' house=2 offends(0,0,0)=BAD offends(0,0,10)=BAD offends(0,0,1)=1 offends(0,0,7)=8 offends(0,0,9)=0",
        "'c9;d1 0 0 0;' house=2 offends(0,0,8)=8 offends(0,0,0)=BAD offends(0,0,-8)=BAD child(0,1)=8", "'c9;d1 0 0 0;' house=2 offends(0,0,9)=0 director(0,5)=1");
    sentence("if that is NERVE or more, it is LOOKED INTO",
        "'c5;d1 0 0 0;' house=2 offends(0,0,4)=4 director(0,5)=0 offends(0,0,1)=0 director(0,5)=1 director(0,1)=1",
        "'c5;d1 0 0 0;' house=2 offends(0,0,4)=4 offends(0,0,9)=0 child(0,1)=0 director(0,5)=1 director(0,1)=1",
        "'c1;d1 0 0 0;' house=2 offends(0,0,1)=0 director(0,5)=1 director(0,1)=1",
        "'c2;d1 0 0 0;d1 0 0 3;' house=3 offends(0,0,1)=1 offends(1,0,1)=0 director(0,5)=0 director(1,5)=1 director(0,1)=0 director(1,1)=1");
    sentence("that CHILD is not HURT any more",
        "'c3;c3;d1 0 0 0;' house=3 offends(0,0,2)=2 offends(0,1,2)=2 offends(0,0,1)=0 child(0,1)=0 child(1,1)=2");
    sentence("his STONE is one more (99 at most)",
        "'c1;d1 30 0 0;' house=2 " + "offends(0,0,1)=0 ".repeat(68) + "director(0,1)=98 offends(0,0,1)=0 director(0,1)=99 offends(0,0,1)=0 "
            + "director(0,1)=99 director(0,5)=70 undo=9 director(0,1)=99 director(0,5)=69 undo=8 director(0,1)=98");
    sentence("he was LOOKED INTO once more (999 at most)", "'c1;d1 0 0 0;' house=2 " + "offends(0,0,1)=0 ".repeat(480) + "director(0,5)=480");
    // No run of 512 calls comes to 999; a longer one is not promised, but shows that the number ends there.
    String beyond = "'c1;d1 0 0 0;' house=2 " + "offends(0,0,1)=0 ".repeat(998) + "director(0,5)=998 offends(0,0,1)=0 director(0,5)=999 offends(0,0,1)=0 director(0,5)=999";
    runSteps(parse(beyond), "a run beyond 512 calls");
  }

  private static void shifting() {
    sentence("one of the STONE of a DIRECTOR (1 or more)",
        "'d1 0 0 0;d1 1 0 0;' house=2 shifts(0,1)=STATE shifts(1,0)=1 director(1,1)=0 shifts(1,0)=STATE now(4)=1");
    sentence("comes to that of another one", "'d1 1 0 0;d1 1 0 0;' house=2 shifts(0,0)=BAD shifts(1,1)=BAD shifts(0,1)=2");
    sentence("in the same ROOM",
        "'p0 1 0;d9 1 0 0;d9 1 0 1;' house=3 shifts(0,1)=STATE shifts(1,0)=STATE goes(0,0)=1 shifts(0,1)=2 undo=1 undo=0 shifts(1,0)=STATE");
    sentence("(98 or less)",
        "'c1;d1 30 0 0;d1 30 0 0;' house=3 " + "offends(0,0,1)=0 ".repeat(67) + "shifts(1,0)=98 shifts(1,0)=99 shifts(1,0)=STATE director(1,1)=28 "
            + "shifts(0,1)=29 shifts(1,0)=99");
  }

  private static void calling() {
    sentence("CALLED in a ROOM: all DIRECTORS there LAUGH then, and all to whom that SPREADS",
        "'d9 1 5 2;d9 2 5 2;d9 3 1 0;d9 4 1 0;f0 2;' house=5 calls(2)=7 now(0)=7",
        "'p0 1 0;d9 1 0 0;d9 2 0 1;' house=3 calls(0)=1 goes(0,0)=1 calls(1)=3 now(0)=3");
    sentence("the STONES of all who LAUGH are 0 then",
        "'d9 1 5 2;d9 2 5 2;d9 3 1 0;d9 4 1 0;f0 2;' house=5 calls(2)=7 now(4)=4 director(0,1)=0 director(1,1)=0 director(2,1)=0 director(3,1)=4",
        "'c1;d9 0 0 0;d9 4 0 1;' house=3 calls(0)=1 offends(0,0,1)=0 director(0,1)=1 calls(1)=3 director(0,1)=0 director(1,1)=0");
    sentence("one who has as many FRIENDS who do as his GRAVITY is, or more",
        "'d9 1 2 0;d9 1 5 0;d9 1 5 0;d9 1 5 0;f0 1;f0 2;f0 3;' house=7 spread(2)=2 spread(6)=7 spread(14)=15",
        "'d9 1 5 0;" + "d9 0 5 1;".repeat(5) + "f0 1;f0 2;f0 3;f0 4;f0 5;' house=11 spread(30)=30 spread(60)=60 spread(62)=63 calls(1)=63",
        "'d9 1 1 0;d9 1 5 0;d9 1 5 0;f0 1;f0 2;' house=5 spread(2)=3 spread(6)=7");
    sentence("and one at least", "'d9 1 0 0;d9 1 5 1;' house=2 spread(0)=0 spread(2)=2 calls(1)=2", "'d9 1 0 0;d9 1 5 1;f0 1;' house=3 spread(0)=0 spread(2)=3 calls(1)=3");
    sentence("and so on, till nobody does",
        "'" + "d9 1 1 0;".repeat(5) + "d9 1 1 1;f4 5;f3 4;f2 3;f1 2;f0 1;' house=11 spread(32)=63 spread(1)=63 calls(1)=63",
        "'" + "d9 1 1 0;".repeat(5) + "d9 1 1 1;f3 5;f3 1;f1 4;f4 0;f0 2;' house=11 spread(32)=63 spread(4)=63",
        "'d9 1 1 0;d9 1 2 0;d9 1 1 0;d9 1 1 1;f3 2;f2 1;f1 0;' house=7 spread(8)=12 spread(9)=15");
  }

  private static void undoing() {
    sentence("UNDONE: the latest GONE, RESTED, OFFENDED, SHIFTED, CALLED: all is as ahead of it.",
        "'p0 1 2;d9 3 0 0;' house=2 goes(0,0)=1 undo=0 director(0,3)=0 director(0,4)=0",
        "'p0 1 2;d9 3 0 0;' house=2 goes(0,0)=1 rests(0)=6 undo=1 director(0,4)=6 director(0,3)=1",
        "'c2;d9 3 0 0;' house=2 offends(0,0,1)=1 offends(0,0,1)=0 undo=1 child(0,1)=1 director(0,1)=3 director(0,5)=0 undo=0 child(0,1)=0",
        "'d9 3 0 0;d9 0 0 0;' house=2 shifts(0,1)=1 undo=0 director(0,1)=3 director(1,1)=0",
        "'d9 3 1 0;d9 2 1 1;f0 1;' house=3 calls(1)=3 undo=0 now(0)=0 director(0,1)=3 director(1,1)=2 calls(0)=3");
    String deeds = "offends(0,0,1)=1 offends(0,0,1)=2 offends(0,0,1)=3 offends(0,0,1)=4 offends(0,0,1)=5 offends(0,0,1)=6 offends(0,0,1)=7 offends(0,0,1)=8 "
        + "offends(0,0,1)=0 offends(0,0,1)=1 ";
    String undone = "undo=9 undo=8 undo=7 undo=6 undo=5 undo=4 undo=3 undo=2 undo=1 undo=0 undo=STATE ";
    String house = "'c9;d1 0 0 0;' house=2 ";
    sentence("10 are known, older ones are lost",
        house + deeds + "count(5)=10 " + undone + "child(0,1)=0 director(0,5)=0",
        house + deeds + "offends(0,0,1)=2 count(5)=10 undo=9 child(0,1)=1 offends(0,0,5)=6 count(5)=10 " + undone + "child(0,1)=1 director(0,5)=0",
        house + deeds + deeds.replace("=", "").replaceAll("\\)\\d", ")") + "count(5)=10 " + undone + "child(0,1)=1 director(0,5)=1");
    sentence("nothing that is refused is to be UNDONE",
        "'p0 1 1;c1;d1 0 0 0;d9 9 0 1;' house=4 goes(0,1)=BAD goes(1,0)=STATE rests(0)=STATE offends(0,0,0)=BAD shifts(0,1)=STATE calls(3)=STATE undo=STATE count(5)=0");
    sentence("a deed behind an UNDONE one is known in its stead",
        house + "offends(0,0,1)=1 offends(0,0,2)=3 undo=1 offends(0,0,5)=6 count(5)=2 undo=1 child(0,1)=1 undo=0 child(0,1)=0 undo=STATE");
  }

  // ---- 3: what is asked

  private static void ways() {
    sentence("by PATHS that he MAY go",
        "'p0 1 4;d9 5 0 0;d9 6 0 0;' house=3 way(0,1,0)=20 way(0,1,1)=1 way(1,1,0)=NONE way(1,1,1)=NONE",
        "'r3;p0 1 9;p0 2 5;p2 1 5;d15 10 0 0;d19 10 0 0;' house=6 way(0,1,0)=100 way(0,1,1)=2 way(1,1,0)=90 way(1,1,1)=1");
    sentence("by which he is least WEARY more",
        "'r3;p0 1 9;p0 2 4;p2 1 4;d20 10 0 0;' house=5 way(0,1,0)=80 way(0,1,1)=2",
        "'p0 1 5;p1 0 3;p0 1 4;d9 2 0 0;' house=4 way(0,1,0)=6 goes(0,0)=1 way(0,0,0)=6 director(0,4)=10");
    sentence("of several such ways the fewest PATHS",
        "'r3;p0 2 4;p2 1 4;p0 1 8;d20 10 0 0;' house=5 way(0,1,0)=80 way(0,1,1)=1",
        "'p0 1 0;p1 2 0;p2 3 0;p0 3 9;d9 0 0 0;d9 1 0 0;' house=6 way(0,3,0)=0 way(0,3,1)=1 way(1,3,0)=0 way(1,3,1)=3",
        "'r8;p6 7 9;p5 6 9;p4 5 9;p3 4 9;p2 3 9;p1 2 9;p0 1 9;d39 30 0 0;' house=9 way(0,7,0)=1890 way(0,7,1)=7");
    sentence("WAY to the ROOM where he is", "'d1 30 0 2;' house=1 way(0,2,0)=0 way(0,2,1)=0", "'p2 1 0;d9 3 0 2;' house=2 way(0,2,0)=0 way(0,2,1)=0");
    sentence("REACH: ROOMS (bits) to which there is one",
        "'d1 30 0 2;' house=1 director(0,7)=4", "'p2 3 1;p0 1 1;d9 1 0 0;d9 1 0 2;d9 9 0 3;' house=5 director(0,7)=3 director(1,7)=12 director(2,7)=8", "'p0 1 4;p1 2 5;d9 5 0 0;d10 5 0 2;d9 6 0 1;' house=5 director(0,7)=3 director(1,7)=7 director(2,7)=2",
        "'r8;p6 7 9;p5 6 9;p4 5 9;p3 4 9;p2 3 9;p1 2 9;p0 1 9;d39 30 0 0;d38 30 0 7;' house=10 director(0,7)=255 director(1,7)=128");
  }

  private static void meeting() {
    sentence("MEET: the ROOM to which all DIRECTORS have a WAY",
        "'p0 1 2;d1 1 0 0;d9 2 0 1;' house=3 now(1)=0 now(2)=4", "'p0 1 2;p2 1 2;d9 2 0 0;d9 2 0 2;d1 1 0 1;' house=5 now(1)=1 now(2)=8");
    sentence("by which they are least WEARY, all together",
        "'p0 1 2;d9 1 0 0;d9 2 0 1;' house=3 now(1)=1 now(2)=2", "'p0 1 2;d9 1 0 0;d9 1 0 0;d9 1 0 0;d9 2 0 1;' house=5 now(1)=0 now(2)=4",
        "'d9 1 0 3;' house=1 now(1)=3 now(2)=0");
    sentence("of several the lowest",
        "'p0 1 2;d9 1 0 1;d9 1 0 0;' house=3 now(1)=0 now(2)=2", "'p3 1 4;d9 0 0 3;' house=2 now(1)=1 now(2)=0",
        "'r8;p7 6 1;p5 6 1;d9 1 0 7;d9 1 0 5;' house=5 now(1)=5 now(2)=2");
    sentence("NONE (no DIRECTORS, too)",
        "now(1)=NONE now(2)=NONE", "'p0 1 0;c1;' house=2 now(1)=NONE now(2)=NONE", "'d9 0 0 0;d9 0 0 1;' house=2 now(1)=NONE now(2)=NONE",
        "'p0 1 9;d9 1 0 0;d9 1 0 1;' house=3 now(1)=NONE now(2)=NONE");
  }

  private static void edges() {
    sentence("EDGE (0 .. 60): his STONE may be more at most so that there is still a WAY",
        "'p0 1 4;d9 5 0 0;d10 5 0 0;d9 4 0 0;' house=4 edge(0,1)=0 edge(1,1)=1 edge(2,1)=1",
        "'p0 1 0;d40 0 0 0;d1 0 0 0;d1 1 0 0;' house=4 edge(0,1)=40 edge(1,1)=1 edge(2,1)=0",
        "'r3;p0 1 9;p0 2 3;p2 1 4;d20 10 0 0;d11 2 0 0;' house=6 edge(0,1)=6 edge(0,2)=7 edge(1,1)=5",
        "'p0 1 9;d39 30 0 0;' house=2 edge(0,1)=0");
    sentence("EDGE at most 60: to the ROOM where he is any STONE may be",
        "'d1 0 0 0;d40 30 0 3;d1 30 0 2;' house=3 edge(0,0)=60 edge(1,3)=60 edge(2,2)=60",
        "'c1;d1 30 0 0;' house=2 " + "offends(0,0,1)=0 ".repeat(69) + "director(0,1)=99 edge(0,0)=60");
    sentence("EDGE: NONE (there is none now)",
        "'p2 3 1;d9 1 0 0;' house=2 edge(0,2)=NONE edge(0,3)=NONE way(0,2,0)=NONE", "'p0 1 4;d9 6 0 0;d9 5 0 0;' house=3 edge(0,1)=NONE edge(0,2)=NONE edge(1,2)=NONE shifts(0,1)=6 edge(0,1)=0 edge(1,1)=NONE");
  }

  private static void laughs() {
    sentence("SPREAD of a set of DIRECTORS (bits)",
        "spread(0)=0 spread(1)=BAD", "'d9 0 0 0;' house=1 spread(0)=0 spread(1)=1 spread(2)=BAD spread(3)=BAD",
        "'" + SIX_DIRECTORS + "' house=6 spread(63)=63 spread(0)=0 spread(32)=32 spread(64)=BAD spread(127)=BAD spread(-1)=BAD");
    sentence("(whoever LAUGHS NOW aside)", "'d9 0 0 0;d9 0 1 1;d9 0 2 2;f0 1;f1 2;f0 2;' house=6 calls(0)=7 spread(0)=0 spread(4)=7",
        "'d9 0 5 0;d9 0 2 1;d9 0 5 2;f0 1;f1 2;' house=5 calls(0)=1 spread(4)=4 now(0)=1");
    sentence("ALL: the fewest DIRECTORS",
        "'d9 0 1 0;d9 0 1 0;d9 0 2 0;f0 2;f1 2;' house=5 spread(3)=7 spread(4)=7 now(3)=4", "'d9 0 5 0;d9 0 5 0;d9 0 5 0;f0 1;f1 2;' house=5 now(3)=7",
        "'d9 0 0 0;' house=1 now(3)=1", "'" + SIX_DIRECTORS + "' house=6 now(3)=63");
    sentence("bits, of several sets the least", "'d9 0 1 0;d9 0 1 0;f0 1;' house=3 now(3)=1", "'d9 0 5 0;d9 0 2 0;d9 0 2 0;d9 0 2 0;f0 1;f1 2;f2 3;f3 1;' house=8 spread(3)=3 spread(5)=15 spread(9)=15 now(3)=5");
    sentence("none of no DIRECTORS", "now(3)=0", "'c1;' house=1 now(3)=0", "'d9 0 0 0;' house=1 'c1;' house=1 now(3)=0");
    sentence("ALL, as SPREAD, leaves whoever LAUGHS NOW aside", "'d9 0 5 0;d9 0 5 1;' house=2 calls(0)=1 now(3)=3 calls(1)=3 now(3)=3");
  }

  private static void pairs() {
    sentence("if the STRENGTH of each is no less than the STONE of the other one",
        "'d5 4 0 0;d4 5 0 3;' house=2 pair(-1)=1 pair(0)=1 pair(1)=0", "'d4 4 0 0;d4 5 0 3;' house=2 pair(-1)=0 pair(0)=NONE pair(1)=NONE",
        "'d5 5 0 0;d4 5 0 3;' house=2 pair(-1)=0 pair(0)=NONE pair(1)=NONE");
    sentence("that with most pairs", "'d9 5 0 0;d9 5 0 0;d5 9 0 0;d5 9 0 0;' house=4 pair(-1)=2 pair(0)=2 pair(1)=3 pair(2)=0 pair(3)=1");
    sentence("of several the first (DIRECTOR by DIRECTOR: the lowest other one, alone last)",
        "'" + "d9 5 0 0;".repeat(5) + "' house=5 pair(-1)=2 pair(0)=1 pair(1)=0 pair(2)=3 pair(3)=2 pair(4)=NONE",
        "'d3 9 0 0;d3 9 0 0;d9 3 0 0;' house=3 pair(-1)=1 pair(0)=2 pair(1)=NONE pair(2)=0",
        "'d1 30 0 0;d9 5 0 0;d9 5 0 0;d9 5 0 0;' house=4 pair(-1)=1 pair(0)=NONE pair(1)=2 pair(2)=1 pair(3)=NONE",
        "'" + "d9 5 0 0;".repeat(6) + "' house=6 pair(-1)=3 pair(4)=5 pair(5)=4");
    sentence("PAIRS: how many; the other one of a DIRECTOR; NONE",
        "pair(-1)=0 pair(0)=BAD pair(-2)=BAD", "'d1 0 0 0;' house=1 pair(-1)=0 pair(0)=NONE pair(1)=BAD pair(-2)=BAD",
        "'d5 4 0 0;d4 5 0 0;' house=2 pair(0)=1 shifts(0,1)=6 pair(-1)=0 pair(0)=NONE undo=0 pair(1)=0");
  }

  private static void hearing() {
    sentence("HEARD (4 at most)",
        "'p0 1 1;d1 0 0 0;' house=2 hears(0,1)=1 hears(0,1)=2 hears(0,1)=3 count(4)=3 hears(0,1)=4 hears(0,1)=FULL hears(0,0)=FULL count(4)=4 who=1 forget=4 hears(0,0)=1 who=0",
        "hears(0,0)=BAD forget=0");
    sentence("MAY go a PATH (1), or not (0)",
        "'p0 1 4;d9 5 0 0;d9 6 0 0;' house=3 hears(0,2)=BAD hears(0,-1)=BAD hears(0,1)=1 who=1 forget=1 hears(0,0)=1 who=2 hears(0,1)=2 who=0");
    sentence("an unknown DIRECTOR, as all are NOW", "'p0 1 4;d9 5 0 0;d9 6 0 0;' house=3 hears(0,1)=1 who=1 shifts(1,0)=6 who=2 undo=0 who=1 calls(0)=3 who=3");
    sentence("WHO: DIRECTORS (bits) by which all that was HEARD is so.",
        "who=0", "'p0 1 1;' house=1 hears(0,1)=1 hears(0,0)=2 who=0", "'" + SIX_DIRECTORS + "' house=6 who=63",
        "'p0 1 1;p0 1 3;d4 3 0 0;d4 1 0 0;d4 4 0 0;' house=5 who=7 hears(0,1)=1 who=3 hears(1,0)=2 who=1 hears(0,1)=3 hears(1,0)=4 who=1");
    sentence("ASK: the PATH by which, gone or not, the greater part of these is least",
        "'p0 1 1;p0 1 2;p0 1 4;d4 0 0 0;d4 2 0 0;d4 2 0 0;d4 3 0 0;' house=7 ask=1",
        "'p0 1 3;p0 1 2;d4 1 0 0;d4 2 0 0;d4 2 0 0;d4 3 0 0;d4 3 0 0;' house=7 ask=1",
        "'p0 1 2;p0 1 3;d4 1 0 0;d4 2 0 0;d4 3 0 0;d4 3 0 0;' house=6 path(0,3)=3 path(1,3)=1 ask=0");
    sentence("ASK: of several the lowest",
        "'p0 1 0;p0 1 3;p2 3 3;d4 1 0 0;d4 3 0 0;' house=5 ask=1", "'p0 1 3;p0 1 2;d4 1 0 0;d4 2 0 0;d4 3 0 0;' house=5 path(0,3)=1 path(1,3)=3 ask=0",
        "'p0 1 2;p0 1 3;d4 1 0 0;d4 2 0 0;d4 3 0 0;' house=5 ask=0");
    sentence("ASK: NONE (fewer than 2, none parts them)",
        "ask=NONE", "'p0 1 1;' house=1 ask=NONE", "'p0 1 1;d4 1 0 0;' house=2 ask=NONE", "'p0 1 1;d4 1 0 0;d4 2 0 0;' house=3 who=3 ask=NONE",
        "'d4 1 0 0;d4 4 0 0;' house=2 who=3 ask=NONE", "'p0 1 3;d4 1 0 0;d4 2 0 0;' house=3 ask=0 hears(0,1)=1 who=1 ask=NONE",
        "'p0 1 3;d4 1 0 0;d4 2 0 0;' house=3 hears(0,1)=1 hears(0,0)=2 who=0 ask=NONE", "'p0 1 9;d4 1 0 0;d4 2 0 0;' house=3 ask=NONE");
  }

  private static void dancing() {
    sentence("DANCES: a DIRECTOR whose STRENGTH is twice his STONE or more.",
        "'d8 4 0 0;d7 4 0 0;d9 4 0 0;d1 0 0 0;d1 1 0 0;d40 20 0 0;' house=6 director(0,8)=1 director(1,8)=0 director(2,8)=1 director(3,8)=1 director(4,8)=0 director(5,8)=1",
        "'d8 4 0 0;d8 3 0 0;' house=2 director(0,8)=1 shifts(1,0)=5 director(0,8)=0 shifts(0,1)=3 director(0,8)=1 director(0,1)=4");
  }

  private static void odds() {
    String one = "'c1;' house=1 ", four = "'" + FOUR_CHILDREN + "' house=4 ";
    sentence("ODDS by x (0 .. 10)",
        one + "odds(-1,0,0)=BAD odds(11,0,0)=BAD odds(0,0,0)=1 odds(0,0,1)=1 odds(10,0,0)=0 odds(10,0,1)=1 odds(10,1,0)=1 odds(10,1,1)=1",
        four + "odds(0,0,0)=1 odds(0,0,1)=1 odds(10,3,0)=0 odds(10,3,1)=1 odds(10,4,0)=1 odds(10,4,1)=1 odds(1,0,0)=6561 odds(1,0,1)=10000 odds(9,0,0)=1 odds(9,0,1)=10000");
    sentence("k (0 .. 4)",
        four + "odds(5,-1,0)=BAD odds(5,5,0)=BAD odds(5,0,0)=1 odds(5,0,1)=16 odds(5,1,0)=5 odds(5,1,1)=16 odds(5,2,0)=11 odds(5,2,1)=16 odds(5,3,0)=15 odds(5,3,1)=16 odds(5,4,0)=1 odds(5,4,1)=1",
        one + "odds(7,0,0)=3 odds(7,0,1)=10 odds(7,1,0)=1 odds(7,1,1)=1 odds(7,4,0)=1 odds(7,4,1)=1 odds(7,5,0)=BAD");
    sentence("each CHILD is offended by x of 10",
        "odds(0,0,0)=1 odds(10,0,0)=1 odds(10,0,1)=1 odds(5,4,0)=1 odds(5,4,1)=1 odds(5,5,0)=BAD odds(11,0,0)=BAD odds(5,0,2)=BAD",
        "'c1;c1;' house=2 odds(3,0,0)=49 odds(3,0,1)=100 odds(3,1,0)=91 odds(3,1,1)=100 odds(3,2,0)=1",
        "'c1;c1;c1;' house=3 odds(3,1,0)=98 odds(3,1,1)=125 odds(3,2,0)=973 odds(3,2,1)=1000");
    sentence("in least terms", "'c1;c1;' house=2 odds(4,0,0)=9 odds(4,0,1)=25 odds(5,0,0)=1 odds(5,0,1)=4 odds(2,1,0)=24 odds(2,1,1)=25");
  }

  // ---- 4: kinds, images

  private static void kinds() {
    String house = "'c1;d9 6 5 1;d9 2 4 3;' house=3 offends(1,0,1)=0 offends(1,0,1)=0 offends(1,0,1)=0 ";
    sentence("DIRECTOR his STONE (1).", house + "mark(0,0)=6 trace=1 mark(0,1)=5 trace=2");
    sentence("FOUNDER up, and his GRAVITY (10).", house + "mark(1,0)=11 trace=11 mark(1,1)=9 trace=22");
    sentence("CHAIR up less how often he was LOOKED INTO (100).", house + "mark(2,0)=6 trace=101 mark(2,1)=2 trace=202 calls(3)=2 mark(2,1)=-3 trace=303");
    sentence("ELDER up times 2 (1000).", house + "mark(3,0)=22 trace=1011 mark(3,1)=18 trace=2022");
    sentence("BURSAR up, and his number (10000).", house + "mark(4,0)=6 trace=10101 mark(4,1)=3 trace=20202 calls(3)=2 mark(4,1)=-2");
    sentence("CLERK up, and his ROOM (100000).", house + "mark(5,0)=7 trace=100001 mark(5,1)=8 trace=200002");
    sentence("KINDS 0 .. 5", house + "mark(-1,0)=NO mark(6,0)=NO mark(0,-1)=NO mark(0,2)=NO mark(6,2)=NO trace=0", "mark(0,0)=NO trace=0");
    sentence("a MARK may be as low as a refusal is, elsewhere", house + "offends(1,0,1)=0 calls(3)=2 mark(2,1)=-4 mark(4,1)=-3 trace=10202");
  }

  private static void images() {
    String house = "'p0 1 1;c3;d9 3 0 0;d9 4 5 0;' house=4 ";
    sentence("IMAGES 0, 1", house + "keep(-1)=BAD keep(2)=BAD back(-1)=BAD back(2)=BAD keep(0)=7 keep(1)=7 back(0)=7 back(1)=7",
        house + "keep(0)=7 back(1)=STATE offends(0,0,9)=0 keep(1)=8 back(0)=7 back(1)=8");
    sentence("IMAGES keep NOW (ROOMS of all, STONES, how WEARY, HURT, LOOKED INTO, who LAUGHS, what may be UNDONE)",
        house + "goes(0,0)=1 offends(0,0,2)=2 keep(1)=7 offends(1,0,2)=0 goes(0,0)=0 rests(0)=6 shifts(1,0)=4 calls(0)=3 back(1)=7 director(0,3)=1 director(0,4)=3 "
            + "director(0,1)=3 director(1,1)=4 director(1,5)=0 child(0,1)=2 now(0)=0 count(5)=2 undo=1 child(0,1)=0 undo=0 director(0,3)=0 undo=STATE",
        house + "goes(0,0)=1 calls(1)=1 offends(1,0,9)=0 keep(0)=5 undo=2 undo=1 undo=0 back(0)=5 now(0)=1 director(0,3)=1 director(0,4)=3 director(1,5)=1 undo=2 undo=1 now(0)=0 now(4)=7",
        house + "offends(0,0,1) ".repeat(12) + "keep(0)=11 count(5)=10 " + "offends(1,0,3)=0 ".repeat(12) + "back(0)=11 count(5)=10 "
            + "undo=9 undo=8 undo=7 undo=6 undo=5 undo=4 undo=3 undo=2 undo=1 undo=0 undo=STATE child(0,1)=2 now(4)=7");
    sentence("IMAGES keep nothing else",
        house + "hears(0,1)=1 'c1' mark(0,0)=3 keep(0)=7 hears(0,0)=2 ';' mark(0,0)=3 back(0)=7 count(4)=2 count(6)=3 trace=2",
        house + "keep(0)=7 hears(0,0)=1 keep(1)=7 back(0)=7 back(1)=7 count(4)=1", house + "keep(0)=7 count(5)=0 back(0)=7 count(5)=0 undo=STATE");
    sentence("an IMAGE is kept anew", house + "keep(0)=7 offends(0,0,9)=0 keep(0)=8 offends(0,0,9)=0 back(0)=8 count(5)=1 back(0)=8 undo=0 back(0)=8 count(5)=1");
    sentence("Read anew: as told",
        house + "goes(0,0)=1 offends(1,0,9)=0 calls(1)=1 " + house + "director(0,3)=0 director(0,1)=3 director(0,4)=0 director(1,5)=0 director(1,1)=4 now(0)=0 child(0,1)=0");
    sentence("Read anew: nothing HEARD or to be UNDONE",
        house + "hears(0,1)=1 goes(0,0)=1 " + house + "count(4)=0 forget=0 count(5)=0 undo=STATE", house + "hears(0,0)=1 " + house + "who=3",
        house + "hears(0,0)=1 goes(0,0)=1 house=0 count(4)=0 undo=STATE");
    sentence("Read anew: IMAGES are gone", house + "keep(0)=7 keep(1)=7 " + house + "back(0)=STATE back(1)=STATE keep(1)=7 back(1)=7 back(0)=STATE",
        house + "keep(0)=7 keep(1)=7 house=0 back(0)=STATE back(1)=STATE");
    sentence("THE TRACE is not read anew", house + "mark(5,0)=3 " + house + "trace=100001");
  }

  // ---- refusals

  /** Deeds, both IMAGES, something HEARD, a TRACE, one who LAUGHS, and the beginning of another text. */
  private static final String BUSY = "'r3;p0 1 2;p1 2 5;p0 2 0;d9 3 1 0;d9 7 2 0;d12 4 0 1;f0 1;c4;c2;' house=10 goes(0,0)=1 offends(1,0,3)=3 keep(0)=14 shifts(2,0)=4 "
      + "offends(1,1,2)=0 goes(0,1)=2 hears(1,1)=1 mark(4,1)=8 keep(1)=15 calls(1)=4 'c1'";

  private static void busy() {
    sentence("what BUSY says of itself",
        BUSY + " count(0)=3 count(1)=3 count(2)=3 count(3)=2 count(4)=1 count(5)=6 count(6)=2 now(0)=4 now(4)=12 who=5 trace=10101 director(0,4)=26 director(1,5)=1 child(0,1)=3 child(1,1)=0");
  }

  private static void badNumbers() {
    sentence("type: BAD", "type(-1)=BAD type(256)=BAD type(0)=1 type(255)=2");
    for (int number : new int[] {-1, 256, -256, 257, 512, 65536, Integer.MIN_VALUE, Integer.MAX_VALUE}) run(BUSY + " type(" + number + ")=BAD");
    sentence("path: BAD"); refused(BUSY, "path(%,0)", "BAD", -1, 3, 9); refused(BUSY, "path(0,%)", "BAD", -1, 4);
    sentence("director: BAD"); refused(BUSY, "director(%,0)", "BAD", -1, 3, 6); refused(BUSY, "director(0,%)", "BAD", -1, 9);
    sentence("child: BAD"); refused(BUSY, "child(%,0)", "BAD", -1, 2, 4); refused(BUSY, "child(0,%)", "BAD", -1, 2);
    sentence("goes: BAD"); refused(BUSY, "goes(%,0)", "BAD", -1, 3, 6); refused(BUSY, "goes(0,%)", "BAD", -1, 3, 9);
    sentence("rests: BAD"); refused(BUSY, "rests(%)", "BAD", -1, 3, 6);
    sentence("offends: BAD"); refused(BUSY, "offends(%,0,1)", "BAD", -1, 3, 6); refused(BUSY, "offends(0,%,1)", "BAD", -1, 2, 4); refused(BUSY, "offends(0,0,%)", "BAD", -1, 0, 10);
    sentence("shifts: BAD (alike ones, too)"); refused(BUSY, "shifts(%,0)", "BAD", -1, 0, 3, 6); refused(BUSY, "shifts(0,%)", "BAD", -1, 0, 3, 6);
    sentence("calls: BAD"); refused(BUSY, "calls(%)", "BAD", -1, 3, 4, 8);
    sentence("now: BAD"); refused(BUSY, "now(%)", "BAD", -1, 5);
    sentence("way: BAD"); refused(BUSY, "way(%,0,0)", "BAD", -1, 3, 6); refused(BUSY, "way(0,%,0)", "BAD", -1, 3, 4, 8); refused(BUSY, "way(0,0,%)", "BAD", -1, 2);
    sentence("edge: BAD"); refused(BUSY, "edge(%,0)", "BAD", -1, 3, 6); refused(BUSY, "edge(0,%)", "BAD", -1, 3, 4, 8);
    sentence("spread: BAD (others than DIRECTORS in it)"); refused(BUSY, "spread(%)", "BAD", -1, 8, 9, 15, 63);
    sentence("pair: BAD"); refused(BUSY, "pair(%)", "BAD", -2, 3, 6);
    sentence("odds: BAD"); refused(BUSY, "odds(%,0,0)", "BAD", -1, 11); refused(BUSY, "odds(0,%,0)", "BAD", -1, 5); refused(BUSY, "odds(0,0,%)", "BAD", -1, 2);
    sentence("hears: BAD"); refused(BUSY, "hears(%,0)", "BAD", -1, 3, 9); refused(BUSY, "hears(0,%)", "BAD", -1, 2);
    sentence("mark: NO: BAD"); refused(BUSY, "mark(%,0)", "NO", -1, 6); refused(BUSY, "mark(0,%)", "NO", -1, 3, 6);
    sentence("keep: BAD"); refused(BUSY, "keep(%)", "BAD", -1, 2);
    sentence("back: BAD"); refused(BUSY, "back(%)", "BAD", -1, 2);
    sentence("count: BAD"); refused(BUSY, "count(%)", "BAD", -1, 7);
  }

  private static void noSuchThing() {
    sentence("BAD (there is no such thing): a new object has no PATHS, nobody",
        "path(0,0)=BAD director(0,0)=BAD child(0,0)=BAD goes(0,0)=BAD rests(0)=BAD offends(0,0,1)=BAD shifts(0,1)=BAD way(0,0,0)=BAD edge(0,0)=BAD spread(1)=BAD "
            + "pair(0)=BAD hears(0,0)=BAD mark(0,0)=NO");
    sentence("BAD (there is no such thing): what an earlier text told is gone",
        "'p0 1 1;d9 1 0 0;c1;' house=3 'r4;' house=1 path(0,0)=BAD director(0,0)=BAD child(0,0)=BAD goes(0,0)=BAD rests(0)=BAD way(0,0,0)=BAD spread(1)=BAD hears(0,0)=BAD mark(0,0)=NO");
    sentence("BAD (there is no such thing): offends without CHILDREN, goes without PATHS",
        "'d9 1 0 0;' house=1 offends(0,0,1)=BAD goes(0,0)=BAD hears(0,1)=BAD shifts(0,1)=BAD", "'c1;' house=1 offends(0,0,1)=BAD", "'p0 1 1;' house=1 goes(0,0)=BAD");
  }

  private static void states() {
    sentence("goes: STATE: the PATH is not there", BUSY + " goes(1,1)=STATE goes(0,0)=STATE goes(2,2)=STATE");
    sentence("goes: STATE: he may not", "'p0 1 4;d9 6 0 0;' house=2 goes(0,0)=STATE", BUSY + " offends(0,1,2)=0 goes(0,1)=STATE");
    sentence("rests: STATE: he is not", BUSY + " rests(1)=STATE rests(0)=26 rests(0)=STATE", "'p0 1 0;d9 6 0 0;' house=2 goes(0,0)=1 rests(0)=STATE");
    sentence("shifts: STATE: not in one ROOM", BUSY + " shifts(0,1)=STATE shifts(1,2)=STATE");
    sentence("shifts: STATE: none to come", "'d9 0 0 0;d9 6 0 0;' house=2 shifts(0,1)=STATE", "'p0 1 0;d9 1 0 0;d9 6 0 1;' house=3 calls(0)=1 goes(0,0)=1 shifts(0,1)=STATE shifts(1,0)=1");
    sentence("shifts: STATE: 99 there", "'c1;d1 30 0 0;d1 30 0 0;' house=3 " + "offends(0,0,1)=0 ".repeat(69) + "shifts(1,0)=STATE director(0,1)=99 director(1,1)=30 undo=9 shifts(1,0)=99");
    sentence("calls: STATE: nobody is there", BUSY + " calls(2)=5 undo=6 goes(1,2)=2 calls(0)=STATE calls(2)=7", "calls(0)=STATE", "'p0 1 0;d9 1 0 0;' house=2 calls(1)=STATE goes(0,0)=1 calls(0)=STATE calls(1)=1");
    sentence("calls: STATE: all there LAUGH", BUSY + " calls(1)=STATE", "'d9 1 0 0;d9 1 0 0;' house=2 calls(0)=3 calls(0)=STATE undo=0 calls(0)=3",
        "'d9 1 0 0;d9 1 0 1;f0 1;' house=3 calls(0)=3 calls(1)=STATE");
    sentence("undo: STATE: none", "undo=STATE", "'d9 1 0 0;d9 1 0 0;' house=2 undo=STATE shifts(0,1)=2 undo=0 undo=STATE", BUSY + " undo=5 undo=4 undo=3 undo=2 undo=1 undo=0 undo=STATE");
    sentence("back: STATE: none was kept", "back(0)=STATE back(1)=STATE", "keep(1)=0 back(0)=STATE back(1)=0", BUSY + " clear=2 'r4;' house=1 back(0)=STATE back(1)=STATE");
  }

  private static void full() {
    sentence("type: FULL", "'" + " ".repeat(150) + "' type(0)=FULL type(255)=FULL count(6)=150 clear=150 type(99)=1", BUSY + " '" + " ".repeat(148) + "' type(59)=FULL clear=150");
    sentence("hears: FULL", BUSY + " hears(0,1)=2 hears(2,1)=3 hears(2,0)=4 hears(0,0)=FULL hears(2,1)=FULL count(4)=4 who=0 forget=4 hears(0,0)=1");
    sentence("Refused, the first of these: BAD ahead of STATE",
        "'p0 1 9;d9 9 0 0;d9 0 0 1;' house=3 goes(0,1)=BAD goes(2,0)=BAD goes(0,0)=STATE rests(2)=BAD shifts(1,1)=BAD shifts(1,2)=BAD shifts(0,0)=BAD calls(4)=BAD calls(3)=STATE",
        "back(2)=BAD back(-1)=BAD back(1)=STATE");
    sentence("Refused, the first of these: BAD ahead of FULL",
        "'" + " ".repeat(150) + "' type(-1)=BAD type(256)=BAD type(0)=FULL",
        "'p0 1 1;d1 0 0 0;' house=2 hears(0,1) hears(0,1) hears(0,1) hears(0,1)=4 hears(1,1)=BAD hears(-1,1)=BAD hears(0,2)=BAD hears(0,-1)=BAD hears(0,1)=FULL");
    sentence("-10 less FAULT: nothing changes.",
        BUSY + " house=FAULT2 count(6)=2 type(59)=3 house=1 count(3)=1", BUSY + " '; r2;' house=FAULT4 clear=7", BUSY + " ';d1 0 0 0;f0 0;' house=FAULT15 house=FAULT15 count(6)=17",
        BUSY + " clear=2 'r2;p0 1 1;d1 1 1 1;d1 1 1 1;f0 1;c1;@' house=FAULT36 count(0)=3 count(2)=3 director(0,6)=2 director(2,6)=0");
  }

  // ---- answers of the promises that name an empty or a last case

  private static void promises() {
    sentence("BoardStones(): As told; no PATHS, nobody.",
        "count(0)=4 count(1)=0 count(2)=0 count(3)=0 count(4)=0 count(5)=0 count(6)=0 now(0)=0 now(1)=NONE now(2)=NONE now(3)=0 now(4)=0 who=0 ask=NONE trace=0 pair(-1)=0 keep(0)=0 back(0)=0");
    sentence("type: how many it has", "type(99)=1 type(49)=2 type(59)=3 house=1 type(99)=1 clear=1 type(99)=1");
    sentence("clear: how many bytes it had", "clear=0 'c1;' clear=3 clear=0 house=0 count(3)=0", "'" + " ".repeat(150) + "' clear=150 clear=0", "'c1' house=FAULT2 clear=2 house=0", BUSY + " clear=2 count(2)=3 count(5)=6");
    sentence("house: THE TEXT is empty then: how many ITEMS", "'c1;' house=1 count(6)=0 house=0 count(3)=0", "'r2;' house=1", "'" + "c1;".repeat(3) + "' house=3",
        "'" + SIX_DIRECTORS + "f0 1;".repeat(19) + "' count(6)=149 house=25");
    sentence("path: who MAY go it (bits)", "'p0 1 4;d9 5 0 0;d9 6 0 3;d4 0 0 2;d3 0 0 0;d40 30 0 0;d9 5 0 1;' house=7 path(0,3)=53 path(0,4)=BAD", "'p0 1 0;' house=1 path(0,3)=0");
    sentence("undo: how many more may be", BUSY + " count(5)=6 undo=5 count(5)=5");
    sentence("now: STONES of all, together", "now(4)=0", "'" + "d1 30 0 0;".repeat(6) + "' house=6 now(4)=180", "'" + SIX_DIRECTORS + "' house=6 now(4)=0");
    sentence("forget: how much was", "forget=0", BUSY + " forget=1 forget=0 count(4)=0 who=7 count(5)=6");
    sentence("keep, back: STONES of all, together", "keep(0)=0 back(0)=0", BUSY + " keep(0)=12 back(1)=15 back(0)=12");
    sentence("trace", "trace=0", BUSY + " trace=10101 mark(3,0)=10 trace=11112 undo=5 trace=11112 back(0)=14 trace=11112");
  }

  private static void asking() {
    sentence("(Nothing is changed.)");
    unchanging(BUSY, "path(0,0)", "path(2,3)", "director(0,1)", "director(1,4)", "director(2,7)", "director(0,8)", "child(0,0)", "child(0,1)", "now(0)", "now(1)", "now(2)", "now(3)", "now(4)");
    unchanging(BUSY, "way(0,0,0)", "way(1,2,1)", "way(2,0,0)", "edge(0,1)", "edge(2,2)", "spread(0)", "spread(1)", "spread(7)", "pair(-1)", "pair(0)", "pair(2)", "odds(3,1,0)", "odds(10,0,1)");
    unchanging(BUSY, "who", "ask", "count(0)", "count(5)", "count(6)", "trace");
  }

  private static void lastCall() {
    String head = "'p0 1 9;c1;d40 30 0 0;d9 2 0 0;' house=4 ";
    sentence("An object is used for at most 512 calls", fill(head, "goes(1,0)=STATE ", "now(4)=32"), fill("", "type(32) clear=1 ", "type(256)=BAD"),
        fill(head, "shifts(0,1)=3 shifts(1,0)=30 ", "director(0,1)=30"), fill(head, "keep(0)=32 back(0)=32 ", "back(1)=STATE"),
        fill(head, "goes(0,0)=1 goes(0,0)=0 rests(0)=540 ", "way(0,1,0)=270"), fill(head, "calls(0)=3 undo=0 ", "calls(0)=3"));
  }

  /** A run of 512 calls: the last of them is answered as the first one is. */
  private static String fill(String head, String middle, String last) {
    int each = parse(middle).size(), times = (MOST_CALLS - 1 - parse(head).size()) / each;
    StringBuilder run = new StringBuilder(head).append(middle.repeat(times));
    int left = MOST_CALLS - 1 - parse(run.toString()).size();
    return run.append("trace=0 ".repeat(left)).append(last).toString();
  }

  public static void main(String[] args) {
    rooms(); paths(); directors(); children();
    text(); tokens(); faults();
    begin(); going(); offending(); shifting(); calling(); undoing();
    ways(); meeting(); edges(); laughs(); pairs(); hearing(); dancing(); odds();
    kinds(); images();
    busy(); badNumbers(); noSuchThing(); states(); full(); promises(); asking(); lastCall();
    System.out.println(wrong == 0 ? sentences + " sentences hold" : wrong + " answers are not as due");
    if (wrong != 0) System.exit(1);
  }
}
