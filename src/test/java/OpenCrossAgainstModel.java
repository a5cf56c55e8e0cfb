import java.nio.charset.StandardCharsets;
import java.util.ArrayList;
import java.util.List;
import java.util.NoSuchElementException;

/** Runs of calls drawn from fixed seeds, each answer held against PlainModel's. */
public final class OpenCrossAgainstModel {
  interface Ask { long answer(); }

  private static final long THROWN = Long.MIN_VALUE;

  private long seed;
  private final List<String> calls = new ArrayList<>();
  private OpenCross x;
  private PlainModel m;
  private int center, width, most, wanting, wrongness;
  private static int wrong = 0;

  OpenCrossAgainstModel(long seed) { this.seed = seed * 0x9E3779B97F4A7C15L + 1; }

  int draw(int n) {
    seed = seed * 6364136223846793005L + 1442695040888963407L;
    return (int) ((seed >>> 33) % n);
  }

  static long get(Ask ask) {
    try { return ask.answer(); } catch (NoSuchElementException e) { return THROWN; }
  }

  boolean same(String call, Ask mine, Ask due) {
    calls.add(call);
    long got = get(mine), want = get(due);
    if (got == want) return true;
    wrong++;
    System.out.println("seed run: " + calls);
    System.out.println("  " + call + " answered " + got + ", due is " + want);
    return false;
  }

  int far() { return new int[] {Integer.MIN_VALUE, Integer.MIN_VALUE + 1, -1000, 1 << 16, 1 << 28, 1 << 29, Integer.MAX_VALUE - 1, Integer.MAX_VALUE}[draw(8)]; }
  int price() { return draw(200) == 0 ? far() : draw(40) == 0 ? draw(1003) - 2 : Math.max(1, Math.min(999, center + draw(width) - width / 2)); }
  int quantity() { return draw(300) == 0 ? far() : draw(60) == 0 ? draw(3) - 1 : draw(90) == 0 ? 9998 + draw(4) : 1 + draw(most); }
  int odd(int n) { return draw(wrongness) == 0 ? (draw(4) == 0 ? far() : draw(n + 6) - 3) : draw(n); }
  int number() { return draw(wrongness) == 0 ? (draw(4) == 0 ? far() : draw(60) - 10) : draw(Math.max(1, m.now.orders.size())); }

  boolean tell() {
    int side = odd(2), kind = odd(5), q = quantity(), p = price(), shows = odd(Math.max(1, q)) + 1;
    int least = draw(100) < wanting ? draw(Math.max(1, q + 1)) + (draw(30) == 0 ? 1 : 0) : draw(50) == 0 ? -1 : 0;
    int owner = odd(draw(2) == 0 ? 8 : 3);
    int s = draw(2) == 0 ? shows : Math.max(1, shows / 3);
    return same("told(" + side + "," + kind + "," + q + "," + p + "," + s + "," + least + "," + owner + ")",
        () -> x.told(side, kind, q, p, s, least, owner), () -> m.told(side, kind, q, p, s, least, owner));
  }

  boolean act() {
    int o = number(), q = quantity(), p = price(), high = p + draw(width + 2) - 1;
    switch (draw(40)) {
      case 0: case 1: case 2: case 3: case 4:
        return same("gone(" + o + ")", () -> x.gone(o), () -> m.gone(o));
      case 5: case 6: case 7: case 8: case 9:
        return same("less(" + o + "," + q + ")", () -> x.less(o, q), () -> m.less(o, q));
      case 10: case 11: return same("freeze()", () -> x.freeze() ? 1 : 0, () -> m.freeze() ? 1 : 0);
      case 12: case 13: return same("cross()", () -> x.cross(), () -> m.cross());
      case 14: case 15: case 16: case 17: return same("open()", () -> x.open(), () -> m.open());
      case 18: return same("reference(" + p + ")", () -> x.reference(p), () -> m.reference(p));
      case 19: return same("collar(" + p + "," + high + ")", () -> x.collar(p, high) ? 1 : 0, () -> m.collar(p, high) ? 1 : 0);
      case 20: return same("collar(1,999)", () -> x.collar(1, 999) ? 1 : 0, () -> m.collar(1, 999) ? 1 : 0);
      case 21: case 22: case 23: return same("back()", () -> x.back() ? 1 : 0, () -> m.back() ? 1 : 0);
      case 24: return backMany();
      case 25: return draw(4) > 0 || text();
      default: return tell();
    }
  }

  boolean backMany() {
    boolean fine = true;
    for (int i = draw(14); i >= 0 && fine; i--) fine = same("back()", () -> x.back() ? 1 : 0, () -> m.back() ? 1 : 0);
    return fine;
  }

  boolean ask() {
    int side = odd(2), p = price(), o = number(), i = draw(5) == 0 ? -1 : odd(6), w = odd(3), q = quantity(), k = odd(5);
    int seven = odd(7), four = odd(4), six = odd(6), eight = odd(8), own = odd(8), eleven = odd(11), two = odd(2);
    switch (draw(17)) {
      case 0: return same("order(" + o + "," + eight + ")", () -> x.order(o, eight), () -> m.order(o, eight));
      case 1: return same("curve(" + p + "," + six + ")", () -> x.curve(p, six), () -> m.curve(p, six));
      case 2: return same("crossed(" + seven + ")", () -> x.crossed(seven), () -> m.crossed(seven));
      case 3: return same("fill(" + o + ")", () -> x.fill(o), () -> m.fill(o));
      case 4: return same("slice(" + side + "," + p + "," + i + "," + w + ")", () -> x.slice(side, p, i, w), () -> m.slice(side, p, i, w));
      case 5: return same("trade(" + i + "," + w + ")", () -> x.trade(i, w), () -> m.trade(i, w));
      case 6: return same("notice(" + seven + ")", () -> x.notice(seven), () -> m.notice(seven));
      case 7: return same("without(" + o + ")", () -> x.without(o), () -> m.without(o));
      case 8: return same("with(" + side + "," + k + "," + q + "," + p + ")", () -> x.with(side, k, q, p), () -> m.with(side, k, q, p));
      case 9: return draw(6) > 0 || same("moves(" + side + "," + two + ")", () -> x.moves(side, two), () -> m.moves(side, two));
      case 10: return draw(3) > 0 || same("swings()", () -> x.swings(), () -> m.swings());
      case 11: return same("level(" + side + "," + i + "," + four + ")", () -> x.level(side, i, four), () -> m.level(side, i, four));
      case 12: return same("past(" + i + "," + four + ")", () -> x.past(i, four), () -> m.past(i, four));
      case 13: return same("owner(" + own + "," + four + ")", () -> x.owner(own, four), () -> m.owner(own, four));
      case 14: return same("gain()", () -> x.gain(), () -> m.gain());
      case 15: return same("left()", () -> x.left(), () -> m.left());
      default: return same("count(" + eleven + ")", () -> x.count(eleven), () -> m.count(eleven));
    }
  }

  /** All that can be seen cheaply. */
  boolean askAll() {
    boolean fine = true;
    for (int w = 0; w <= 10 && fine; w++) { int a = w; fine = same("count(" + a + ")", () -> x.count(a), () -> m.count(a)); }
    for (int w = 0; w <= 6 && fine; w++) { int a = w; fine = same("crossed(" + a + ")", () -> x.crossed(a), () -> m.crossed(a)); }
    for (int w = 0; w <= 6 && fine; w++) { int a = w; fine = same("notice(" + a + ")", () -> x.notice(a), () -> m.notice(a)); }
    for (int o = 0; o < m.now.orders.size() && fine; o++) {
      int a = o;
      fine = same("fill(" + a + ")", () -> x.fill(a), () -> m.fill(a));
      for (int w = 0; w < 8 && fine; w++) { int b = w; fine = same("order(" + a + "," + b + ")", () -> x.order(a, b), () -> m.order(a, b)); }
    }
    for (int i = -1; i < m.trade(-1, 0) && fine; i++) {
      int a = i;
      for (int w = 0; w < 3 && fine; w++) { int b = w; fine = same("trade(" + a + "," + b + ")", () -> x.trade(a, b), () -> m.trade(a, b)); }
    }
    for (int o = 0; o < 8 && fine; o++) {
      int a = o;
      for (int w = 0; w < 4 && fine; w++) { int b = w; fine = same("owner(" + a + "," + b + ")", () -> x.owner(a, b), () -> m.owner(a, b)); }
    }
    return fine && same("gain()", () -> x.gain(), () -> m.gain()) && same("left()", () -> x.left(), () -> m.left());
  }

  // ---- texts

  String word(String... some) { return some[draw(some.length)]; }

  String line(boolean terms) {
    if (terms && draw(3) == 0) return draw(2) == 0 ? "reference " + price() : "collar " + draw(200) + " " + (150 + draw(900));
    int q = 1 + draw(most);
    String kind = word("market", "limit", "hidden", "even", "ice");
    String s = word("buy ", "sell ") + kind + " " + q;
    if (!kind.equals("market")) s += " at " + price();
    if (kind.equals("ice")) s += "shows" + (1 + draw(q));
    if (draw(4) == 0) s += " least " + draw(q + 1 + draw(2));
    if (draw(3) == 0) s += "\nby " + draw(draw(20) == 0 ? 10 : 8);
    return s;
  }

  String whole() {
    StringBuilder b = new StringBuilder();
    int lines = draw(6) == 0 ? 39 + draw(4) : draw(8) + 1;
    for (int i = 0; i < lines; i++) {
      String l = lines > 20 ? word("buy market 7", "sell even 1at9") : line(i < 3 || draw(20) == 0);
      b.append(i == 0 ? "" : word(";", " ; ", ";\n")).append(l);
    }
    String marks = " ;a9b\n\tlze0-A\u00e9";
    for (int k = draw(3) == 0 ? 1 + draw(2) : 0; k > 0; k--) {
      int at = draw(b.length() + 1);
      String mark = String.valueOf(marks.charAt(draw(marks.length())));
      switch (draw(5)) {
        case 0: b.insert(at, mark); break;
        case 1: if (at < b.length()) b.deleteCharAt(at); break;
        case 2: if (at < b.length()) b.setCharAt(at, mark.charAt(0)); break;
        case 3: b.insert(at, word("12345", "0007", "reference ", "referenceb", "collar", " by 7", ";", "at", "buy ")); break;
        default: b.setLength(at);
      }
    }
    return b.toString();
  }

  boolean text() {
    byte[] bytes = whole().getBytes(StandardCharsets.ISO_8859_1);
    boolean fine = true;
    int before = m.tape.length();
    for (int at = 0; at < bytes.length && fine; at += 20) {
      int[] n = new int[5];
      for (int k = 0; k < 20; k++) {
        int b = at + k < bytes.length ? bytes[at + k] & 255 : 32;
        n[k / 4] = n[k / 4] << 8 | b;
      }
      fine = same("feed(" + n[0] + "," + n[1] + "," + n[2] + "," + n[3] + "," + n[4] + ")",
          () -> x.feed(n[0], n[1], n[2], n[3], n[4]), () -> m.feed(n));
    }
    int n = draw(20) == 0 ? draw(830) - 10 : before + bytes.length;
    return fine && (draw(30) == 0 || same("text(" + n + ")", () -> x.text(n), () -> m.text(n)));
  }

  boolean run(int length) {
    x = new OpenCross();
    m = new PlainModel();
    center = draw(8) == 0 ? 1 + draw(999) : 100;
    width = new int[] {2, 4, 8, 12, 60, 900}[draw(6)];
    most = new int[] {3, 10, 30, 200, 9999}[draw(5)];
    wanting = new int[] {0, 10, 40, 80}[draw(4)];
    wrongness = 12 + draw(60);
    int texts = draw(4);
    boolean fine = true;
    while (calls.size() < length && fine) {
      int before = calls.size();
      if (texts == 0 && draw(4) == 0) fine = text();
      else fine = draw(3) > 0 ? act() : ask();
      if (fine && draw(25) == 0 && calls.size() > before) fine = askAll();
    }
    return fine && askAll();
  }

  public static void main(String[] args) {
    int runs = args.length > 0 ? Integer.parseInt(args[0]) : 150;
    int first = args.length > 1 ? Integer.parseInt(args[1]) : 0;
    for (int r = first; r < first + runs && wrong < 3; r++) new OpenCrossAgainstModel(r).run(350);
    System.out.println(wrong == 0 ? "all answers are the model's" : wrong + " runs go another way than the model");
    if (wrong != 0) System.exit(1);
  }
}
