import java.util.ArrayDeque;
import java.util.ArrayList;
import java.util.Arrays;
import java.util.List;
import java.util.regex.Matcher;
import java.util.regex.Pattern;

// Runs of chosen calls, each answer held against a second, slow program that tries all ways, sets and pairings.
public final class ModelTest {
  private static final int BAD = -1, STATE = -2, FULL = -3, NONE = -9, NO = -1000000;

  /** What deeds change. */
  private static final class Snap {
    int[] room, stone, weary, looked, hurt;
    boolean[] laughs;

    Snap copy() {
      Snap s = new Snap();
      s.room = room.clone(); s.stone = stone.clone(); s.weary = weary.clone(); s.looked = looked.clone();
      s.hurt = hurt.clone(); s.laughs = laughs.clone();
      return s;
    }
  }

  private static final class Kept {
    Snap snap;
    List<Snap> undo;
  }

  private static final class Model {
    StringBuilder text = new StringBuilder();
    int rooms = 4;
    List<int[]> paths = new ArrayList<>(), directors = new ArrayList<>(), friends = new ArrayList<>(), children = new ArrayList<>(), heard = new ArrayList<>();
    Snap now = new Snap();
    List<Snap> undo = new ArrayList<>();
    Kept[] kept = new Kept[2];
    long trace;

    Model() { begin(); }

    void begin() {
      int n = directors.size();
      now = new Snap();
      now.room = new int[n]; now.stone = new int[n]; now.weary = new int[n]; now.looked = new int[n];
      now.laughs = new boolean[n]; now.hurt = new int[children.size()];
      for (int d = 0; d < n; d++) { now.room[d] = directors.get(d)[3]; now.stone[d] = directors.get(d)[1]; }
      undo.clear(); heard.clear(); kept = new Kept[2];
    }

    long call(String name, int[] a) {
      switch (name) {
        case "type": if (a[0] < 0 || a[0] > 255) return BAD; if (text.length() == 150) return FULL; text.append((char) a[0]); return text.length();
        case "clear": { int n = text.length(); text.setLength(0); return n; }
        case "house": return house();
        case "path": return out(a[0], paths) ? BAD : a[1] == 3 ? mayGo(a[0]) : a[1] < 0 || a[1] > 3 ? BAD : paths.get(a[0])[a[1]];
        case "director": return director(a[0], a[1]);
        case "child": return out(a[0], children) || a[1] < 0 || a[1] > 1 ? BAD : a[1] == 0 ? children.get(a[0])[0] : now.hurt[a[0]];
        case "goes": return goes(a[0], a[1]);
        case "rests": { if (out(a[0], directors)) return BAD; int w = now.weary[a[0]]; if (w == 0) return STATE; did(); now.weary[a[0]] = 0; return w; }
        case "offends": return offends(a[0], a[1], a[2]);
        case "shifts": return shifts(a[0], a[1]);
        case "calls": return calls(a[0]);
        case "undo": if (undo.isEmpty()) return STATE; now = undo.remove(undo.size() - 1); return undo.size();
        case "now": return nows(a[0]);
        case "way": { if (out(a[0], directors) || a[1] < 0 || a[1] >= rooms || a[2] < 0 || a[2] > 1) return BAD; int[] w = way(a[0], a[1], now.stone[a[0]]); return w == null ? NONE : w[a[2]]; }
        case "edge": return edge(a[0], a[1]);
        case "spread": return a[0] < 0 || a[0] >= 1 << directors.size() ? BAD : spread(a[0]);
        case "pair": return pair(a[0]);
        case "odds": return odds(a[0], a[1], a[2]);
        case "hears": if (out(a[0], paths) || a[1] < 0 || a[1] > 1) return BAD; if (heard.size() == 4) return FULL; heard.add(a.clone()); return heard.size();
        case "forget": { int n = heard.size(); heard.clear(); return n; }
        case "who": return who();
        case "ask": return ask();
        case "mark": return a[0] < 0 || a[0] > 5 || out(a[1], directors) ? NO : mark(a[0], a[1]);
        case "keep": if (a[0] < 0 || a[0] > 1) return BAD; kept[a[0]] = new Kept(); kept[a[0]].snap = now.copy(); kept[a[0]].undo = copies(undo); return stones();
        case "back": if (a[0] < 0 || a[0] > 1) return BAD; if (kept[a[0]] == null) return STATE; now = kept[a[0]].snap.copy(); undo = copies(kept[a[0]].undo); return stones();
        case "count": { int[] c = {rooms, paths.size(), directors.size(), children.size(), heard.size(), undo.size(), text.length()}; return a[0] < 0 || a[0] >= c.length ? BAD : c[a[0]]; }
        default: return trace;
      }
    }

    static boolean out(int i, List<?> list) { return i < 0 || i >= list.size(); }

    static List<Snap> copies(List<Snap> from) {
      List<Snap> to = new ArrayList<>();
      for (Snap s : from) to.add(s.copy());
      return to;
    }

    void did() { undo.add(now.copy()); if (undo.size() > 10) undo.remove(0); }

    int stones() { return Arrays.stream(now.stone).sum(); }

    // ---- the text: tokens are cut first, each with its place, and then looked at in turn

    int house() {
      Model m = new Model();
      int answer = m.read(text.toString());
      if (answer < 0) return answer;
      text.setLength(0);
      rooms = m.rooms; paths = m.paths; directors = m.directors; friends = m.friends; children = m.children;
      begin();
      return answer;
    }

    int read(String s) {
      List<String> tokens = new ArrayList<>();
      List<Integer> places = new ArrayList<>();
      Matcher m = Pattern.compile("[a-z]+|[0-9]+|[^ ]", Pattern.DOTALL).matcher(s);
      while (m.find()) { tokens.add(m.group()); places.add(m.start()); }
      tokens.add(""); places.add(s.length());
      int t = 0, items = 0;
      while (t < tokens.size() - 1) {
        String what = tokens.get(t);
        int wanted = List.of("p", "d", "f", "c", "r").contains(what) ? new int[] {3, 4, 2, 1, 1}["pdfcr".indexOf(what)] : -1;
        if (wanted < 0 || what.equals("r") && items > 0 || what.equals("p") && paths.size() == 9
            || what.equals("d") && directors.size() == 6 || what.equals("c") && children.size() == 4) return -10 - places.get(t);
        t++;
        int[] n = new int[wanted];
        for (int i = 0; i < wanted; i++, t++) {
          String token = tokens.get(t);
          if (!token.matches("0|[1-9][0-9]?")) return -10 - places.get(t);
          n[i] = Integer.parseInt(token);
          if (!fits(what, i, n)) return -10 - places.get(t);
        }
        if (!tokens.get(t).equals(";")) return -10 - places.get(t);
        t++;
        items++;
        switch (what) {
          case "r": rooms = n[0]; break;
          case "p": paths.add(n); break;
          case "d": directors.add(n); break;
          case "f": friends.add(n); break;
          default: children.add(n);
        }
      }
      return items;
    }

    boolean fits(String what, int i, int[] n) {
      int v = n[i], people = directors.size();
      switch (what + i) {
        case "r0": return v >= 2 && v <= 8;
        case "p0": return v < rooms;
        case "p1": return v < rooms && v != n[0];
        case "p2": return v <= 9;
        case "d0": return v >= 1 && v <= 40;
        case "d1": return v <= 30;
        case "d2": return v <= 5;
        case "d3": return v < rooms;
        case "f0": return v < people;
        case "f1": return v < people && v != n[0];
        default: return v >= 1 && v <= 9;
      }
    }

    // ---- deeds

    boolean may(int d, int p) { return now.stone[d] + paths.get(p)[2] <= directors.get(d)[0]; }

    int mayGo(int p) {
      int bits = 0;
      for (int d = 0; d < directors.size(); d++) if (may(d, p)) bits += 1 << d;
      return bits;
    }

    boolean friendsAre(int a, int b) {
      for (int[] f : friends) if (f[0] == a && f[1] == b || f[0] == b && f[1] == a) return true;
      return false;
    }

    int director(int d, int what) {
      if (out(d, directors) || what < 0 || what > 8) return BAD;
      int[] t = directors.get(d);
      int bits = 0;
      if (what == 6) for (int o = 0; o < directors.size(); o++) if (friendsAre(d, o)) bits += 1 << o;
      if (what == 7) for (int r = 0; r < rooms; r++) if (way(d, r, now.stone[d]) != null) bits += 1 << r;
      return new int[] {t[0], now.stone[d], t[2], now.room[d], now.weary[d], now.looked[d], bits, bits, t[0] >= now.stone[d] + now.stone[d] ? 1 : 0}[what];
    }

    int goes(int d, int p) {
      if (out(d, directors) || out(p, paths)) return BAD;
      int[] t = paths.get(p);
      if (t[0] != now.room[d] && t[1] != now.room[d] || !may(d, p)) return STATE;
      did();
      now.room[d] = t[0] + t[1] - now.room[d];
      now.weary[d] += now.stone[d] * t[2];
      if (now.weary[d] > 9999) now.weary[d] = 9999;
      return now.room[d];
    }

    int offends(int d, int c, int n) {
      if (out(d, directors) || out(c, children) || n < 1 || n > 9) return BAD;
      did();
      now.hurt[c] += n;
      if (now.hurt[c] >= children.get(c)[0]) {
        now.hurt[c] = 0;
        if (now.stone[d] < 99) now.stone[d]++;
        if (now.looked[d] < 999) now.looked[d]++;
      }
      return now.hurt[c];
    }

    int shifts(int f, int t) {
      if (out(f, directors) || out(t, directors) || f == t) return BAD;
      if (now.room[f] != now.room[t] || now.stone[f] == 0 || now.stone[t] == 99) return STATE;
      did();
      now.stone[f]--;
      return ++now.stone[t];
    }

    int laughing() {
      int bits = 0;
      for (int d = 0; d < directors.size(); d++) if (now.laughs[d]) bits += 1 << d;
      return bits;
    }

    int calls(int room) {
      if (room < 0 || room >= rooms) return BAD;
      boolean some = false;
      for (int d = 0; d < directors.size(); d++) if (now.room[d] == room && !now.laughs[d]) some = true;
      if (!some) return STATE;
      did();
      for (int d = 0; d < directors.size(); d++) if (now.room[d] == room) now.laughs[d] = true;
      int bits = spread(laughing());
      for (int d = 0; d < directors.size(); d++) if ((bits & 1 << d) != 0) { now.laughs[d] = true; now.stone[d] = 0; }
      return bits;
    }

    int spread(int set) {
      for (int d = 0; d < directors.size(); d++) {
        int merry = 0;
        for (int o = 0; o < directors.size(); o++) if ((set & 1 << o) != 0 && friendsAre(d, o)) merry++;
        if ((set & 1 << d) == 0 && merry > 0 && merry >= directors.get(d)[2]) return spread(set + (1 << d));
      }
      return set;
    }

    // ---- ways

    int[] way(int d, int aim, int stone) { return walk(d, now.room[d], aim, stone, 1 << now.room[d], 0, 0); }

    int[] walk(int d, int at, int aim, int stone, int seen, int weary, int count) {
      if (at == aim) return new int[] {weary, count};
      int[] best = null;
      for (int[] p : paths) {
        if (p[0] != at && p[1] != at || stone + p[2] > directors.get(d)[0]) continue;
        int next = p[0] + p[1] - at;
        if ((seen & 1 << next) != 0) continue;
        int[] w = walk(d, next, aim, stone, seen | 1 << next, weary + stone * p[2], count + 1);
        if (w != null && (best == null || w[0] < best[0] || w[0] == best[0] && w[1] < best[1])) best = w;
      }
      return best;
    }

    int edge(int d, int room) {
      if (out(d, directors) || room < 0 || room >= rooms) return BAD;
      for (int more = 60; more >= 0; more--) if (way(d, room, now.stone[d] + more) != null) return more;
      return NONE;
    }

    int nows(int what) {
      if (what < 0 || what > 4) return BAD;
      if (what == 0) return laughing();
      if (what == 4) return stones();
      if (what == 3) {
        int all = (1 << directors.size()) - 1;
        for (int size = 0; ; size++) for (int set = 0; set <= all; set++) if (Integer.bitCount(set) == size && spread(set) == all) return set;
      }
      int best = NONE, least = NONE;
      for (int r = 0; r < rooms && directors.size() > 0; r++) {
        int sum = 0;
        for (int d = 0; d < directors.size() && sum >= 0; d++) {
          int[] w = way(d, r, now.stone[d]);
          sum = w == null ? -1 : sum + w[0];
        }
        if (sum >= 0 && (best == NONE || sum < least)) { best = r; least = sum; }
      }
      return what == 1 ? best : least;
    }

    // ---- pairs: every way is written as the row of the other ones, 9 for nobody

    int pair(int d) {
      if (d != -1 && out(d, directors)) return BAD;
      int[] row = new int[directors.size()];
      Arrays.fill(row, -1);
      int[] best = best(row, 0);
      if (d == -1) { int n = 0; for (int o : best) if (o != 9) n++; return n / 2; }
      return best[d] == 9 ? NONE : best[d];
    }

    int[] best(int[] row, int d) {
      if (d == row.length) return row;
      if (row[d] != -1) return best(row, d + 1);
      int[] alone = row.clone();
      alone[d] = 9;
      int[] best = best(alone, d + 1);
      for (int o = row.length - 1; o > d; o--) {
        if (row[o] != -1 || directors.get(d)[0] < now.stone[o] || directors.get(o)[0] < now.stone[d]) continue;
        int[] both = row.clone();
        both[d] = o;
        both[o] = d;
        int[] other = best(both, d + 1);
        if (better(other, best)) best = other;
      }
      return best;
    }

    static boolean better(int[] a, int[] b) {
      long alonesA = Arrays.stream(a).filter(o -> o == 9).count(), alonesB = Arrays.stream(b).filter(o -> o == 9).count();
      return alonesA != alonesB ? alonesA < alonesB : Arrays.compare(a, b) < 0;
    }

    int odds(int x, int k, int what) {
      if (x < 0 || x > 10 || k < 0 || k > 4 || what < 0 || what > 1) return BAD;
      int all = 1, good = 0, n = children.size();
      for (int i = 0; i < n; i++) all *= 10;
      for (int draw = 0; draw < all; draw++) {
        int hit = 0;
        for (int rest = draw, i = 0; i < n; i++, rest /= 10) if (rest % 10 < x) hit++;
        if (hit <= k) good++;
      }
      for (int f = all; f > 1; f--) if (good % f == 0 && all % f == 0) { good /= f; all /= f; }
      return what == 0 ? good : all;
    }

    int who() {
      int bits = 0;
      for (int d = 0; d < directors.size(); d++) {
        boolean is = true;
        for (int[] h : heard) is &= may(d, h[0]) == (h[1] == 1);
        if (is) bits += 1 << d;
      }
      return bits;
    }

    int ask() {
      int left = who(), best = NONE, least = 99;
      for (int p = 0; p < paths.size(); p++) {
        int yes = Integer.bitCount(left & mayGo(p)), no = Integer.bitCount(left & ~mayGo(p));
        if (yes > 0 && no > 0 && Math.max(yes, no) < least) { best = p; least = Math.max(yes, no); }
      }
      return best;
    }

    int mark(int kind, int d) {
      trace += new int[] {1, 10, 100, 1000, 10000, 100000}[kind];
      switch (kind) {
        case 0: return now.stone[d];
        case 1: return mark(0, d) + directors.get(d)[2];
        case 2: return mark(0, d) - now.looked[d];
        case 3: return mark(1, d) * 2;
        case 4: return mark(2, d) + d;
        default: return mark(0, d) + now.room[d];
      }
    }
  }

  // ---- the choice of calls: a row of numbers of our own, so that every run is the same

  private static long seed = 20261118L;

  private static int pick(int n) {
    seed = seed * 6364136223846793005L + 1442695040888963407L;
    return (int) ((seed >>> 33) % n);
  }

  private static int near(int most) {
    if (pick(12) > 0) return pick(most + 1);
    switch (pick(6)) {
      case 0: return Integer.MIN_VALUE + pick(3);
      case 1: return Integer.MAX_VALUE - pick(3);
      case 2: return 1 << pick(32);
      case 3: return most + 1 + pick(3);
      default: return -1 - pick(3);
    }
  }

  private static String text(int style) {
    StringBuilder s = new StringBuilder();
    int rooms = 4, people = 0;
    if (pick(3) > 0) { rooms = 2 + pick(7); s.append("r").append(rooms).append(";"); }
    int paths = pick(10), directors = pick(7), friends = pick(8), children = pick(5);
    int flat = pick(3), strong = pick(3);
    for (int i = 0; i < directors; i++) s.append("d").append(strong == 0 ? 1 + pick(40) : strong == 1 ? 10 + pick(8) : 40).append(" ").append(pick(strong == 0 ? 31 : 12)).append(" ").append(pick(3) == 0 ? pick(6) : pick(3)).append(" ").append(pick(rooms)).append(";");
    for (int i = 0; i < paths; i++) { int a = pick(rooms); s.append("p").append(a).append(" ").append((a + 1 + pick(rooms - 1)) % rooms).append(" ").append(flat == 0 ? 2 : pick(10)).append(";"); }
    for (int i = 0; i < friends && directors > 1; i++) { int a = pick(directors); s.append("f").append(a).append(" ").append((a + 1 + pick(directors - 1)) % directors).append(";"); }
    for (int i = 0; i < children; i++) s.append("c").append(1 + pick(9)).append(";");
    if (s.length() > 150) s.setLength(s.lastIndexOf(";", 149) + 1);
    if (style == 0 && s.length() > 0) spoil(s);
    return s.toString();
  }

  private static void spoil(StringBuilder s) {
    String signs = "rpdfc;; 0123456789  a\t@";
    for (int times = 1 + pick(2); times > 0 && s.length() > 0; times--) {
      int at = pick(s.length());
      switch (pick(4)) {
        case 0: s.deleteCharAt(at); break;
        case 1: s.insert(at, signs.charAt(pick(signs.length()))); break;
        case 2: s.setCharAt(at, signs.charAt(pick(signs.length()))); break;
        default: s.setLength(at);
      }
    }
  }

  private static long ask(BoardStones x, String name, int[] a) {
    switch (name) {
      case "type": return x.type(a[0]);
      case "clear": return x.clear();
      case "house": return x.house();
      case "path": return x.path(a[0], a[1]);
      case "director": return x.director(a[0], a[1]);
      case "child": return x.child(a[0], a[1]);
      case "goes": return x.goes(a[0], a[1]);
      case "rests": return x.rests(a[0]);
      case "offends": return x.offends(a[0], a[1], a[2]);
      case "shifts": return x.shifts(a[0], a[1]);
      case "calls": return x.calls(a[0]);
      case "undo": return x.undo();
      case "now": return x.now(a[0]);
      case "way": return x.way(a[0], a[1], a[2]);
      case "edge": return x.edge(a[0], a[1]);
      case "spread": return x.spread(a[0]);
      case "pair": return x.pair(a[0]);
      case "odds": return x.odds(a[0], a[1], a[2]);
      case "hears": return x.hears(a[0], a[1]);
      case "forget": return x.forget();
      case "who": return x.who();
      case "ask": return x.ask();
      case "mark": return x.mark(a[0], a[1]);
      case "keep": return x.keep(a[0]);
      case "back": return x.back(a[0]);
      case "count": return x.count(a[0]);
      default: return x.trace();
    }
  }

  private static final String[] NAMES = {"path", "director", "child", "goes", "goes", "goes", "rests", "offends", "offends", "offends", "shifts", "shifts",
    "calls", "undo", "now", "now", "way", "way", "edge", "spread", "pair", "odds", "hears", "forget", "who", "ask", "mark", "keep", "back", "count", "trace"};

  private static int[] arguments(String name, Model m) {
    int d = Math.max(0, m.directors.size() - 1), p = Math.max(0, m.paths.size() - 1), r = m.rooms - 1, c = Math.max(0, m.children.size() - 1);
    switch (name) {
      case "path": return new int[] {near(p), near(3)};
      case "director": return new int[] {near(d), near(8)};
      case "child": return new int[] {near(c), near(1)};
      case "goes": return new int[] {near(d), near(p)};
      case "rests": return new int[] {near(d)};
      case "offends": return new int[] {near(d), near(c), near(9)};
      case "shifts": return new int[] {near(d), near(d)};
      case "calls": return new int[] {pick(3) == 0 ? near(r) : -1};
      case "now": return new int[] {near(4)};
      case "way": return new int[] {near(d), near(r), near(1)};
      case "edge": return new int[] {near(d), near(r)};
      case "spread": return new int[] {near((1 << m.directors.size()) - 1)};
      case "pair": return new int[] {near(d)};
      case "odds": return new int[] {near(10), near(4), near(1)};
      case "hears": return new int[] {near(p), near(1)};
      case "mark": return new int[] {near(5), near(d)};
      case "keep": case "back": return new int[] {near(1)};
      case "count": return new int[] {near(6)};
      default: return new int[0];
    }
  }

  private static final class Run {
    final BoardStones x = new BoardStones();
    final Model m = new Model();
    final ArrayDeque<String> latest = new ArrayDeque<>();
    int calls;

    boolean same(String name, int... a) {
      calls++;
      long got = ask(x, name, a), want = m.call(name, a);
      latest.add(name + Arrays.toString(a) + " = " + want);
      if (latest.size() > 200) latest.remove();
      if (got == want) return true;
      System.out.println("answered " + got + ", due is " + want + ", behind " + latest);
      return false;
    }

    boolean read(String text) {
      if (!same("clear")) return false;
      for (int i = 0; i < text.length(); i++) if (!same("type", text.charAt(i))) return false;
      return same("house");
    }

    boolean whole() {
      if (pick(5) == 0 && !deeds(20)) return false;
      if (!read(text(pick(6)))) return false;
      if (!deeds(pick(2) == 0 ? 1000 : 100)) return false;
      return calls > 330 || read(text(pick(2))) && deeds(1000);
    }

    boolean deeds(int most) {
      for (int i = 0; i < most && calls < 512; i++) {
        String name = NAMES[pick(NAMES.length)];
        if (!same(name, arguments(name, m))) return false;
      }
      return true;
    }
  }

  /** A run in which few things are done, so often that what is bounded comes to its bound. */
  private static boolean heavy() {
    Run run = new Run();
    if (!run.read("p0 1 9;p0 1 5;c1;c2;d40 28 1 0;d40 30 0 1;d40 30 0 0;f0 1;")) return false;
    while (run.calls < 512) {
      String[] names = {"goes", "offends", "shifts", "director", "undo"};
      String name = names[pick(40) == 0 ? 4 : pick(4)];
      int d = pick(6) == 0 ? 1 : 0;
      int[] a = name.equals("goes") ? new int[] {d, pick(2)} : name.equals("offends") ? new int[] {2, 0, 1 + pick(9)}
        : name.equals("shifts") ? new int[] {pick(3), 2} : name.equals("director") ? new int[] {pick(3), pick(9)} : new int[0];
      if (!run.same(name, a)) return false;
    }
    return true;
  }

  public static void main(String[] args) {
    int runs = args.length > 0 ? Integer.parseInt(args[0]) : 1500;
    for (int i = 0; i < runs; i++) {
      if (!new Run().whole() || i % 10 == 0 && !heavy()) {
        System.out.println("run " + i + " differs");
        System.exit(1);
      }
    }
    for (int i = 0; i < runs * 10; i++) {
      if (!new Run().read(text(0))) {
        System.out.println("text " + i + " differs");
        System.exit(1);
      }
    }
    System.out.println("all answers are as the model's");
  }
}
