import java.nio.charset.StandardCharsets;
import java.util.NoSuchElementException;

/** What the tests by hand share: asking and comparing, texts, and some openings to begin with. */
class Checks {
  interface Ask { long answer(); }

  interface Test { void run(); }

  static final int MARKET = 0, LIMIT = 1, HIDDEN = 2, ICE = 3, EVEN = 4;
  static final int GATHERING = 0, FROZEN = 1, CROSSED = 2;
  static final int FAR = Integer.MAX_VALUE, DEEP = Integer.MIN_VALUE;
  static final long THROWS = Long.MIN_VALUE;
  static int wrong = 0;
  static String promise = "";
  private static int passed = 0, failed = 0;

  /** One sentence of the document with its own test; what else a test throws is its own failure alone. */
  static void edge(String sentence, Test test) {
    promise = sentence;
    int before = wrong;
    try {
      test.run();
    } catch (RuntimeException e) {
      wrong++;
      System.out.println(sentence + ": threw " + e);
    }
    if (wrong == before) passed++; else failed++;
  }

  static void end() {
    System.out.println(passed + " passed, " + failed + " failed");
    if (failed != 0) System.exit(1);
  }

  static void due(String call, long got, long want) {
    if (got != want) {
      wrong++;
      System.out.println(promise + ": " + call + " answered " + said(got) + ", due is " + said(want));
    }
  }

  static void due(String call, boolean got, boolean want) { due(call, got ? 1 : 0, want ? 1 : 0); }

  private static String said(long answer) { return answer == THROWS ? "NoSuchElementException" : String.valueOf(answer); }

  static long get(Ask ask) {
    try { return ask.answer(); } catch (NoSuchElementException e) { return THROWS; }
  }

  static int buy(OpenCross x, int kind, int quantity, int price) { return x.told(0, kind, quantity, price, 1, 0, 0); }

  static int sell(OpenCross x, int kind, int quantity, int price) { return x.told(1, kind, quantity, price, 1, 0, 0); }

  static int wants(OpenCross x, int side, int quantity, int price, int least) { return x.told(side, LIMIT, quantity, price, 0, least, 0); }

  static int feedAll(OpenCross x, String text) {
    byte[] bytes = text.getBytes(StandardCharsets.ISO_8859_1);
    int last = x.count(9);
    for (int at = 0; at < bytes.length; at += 20) {
      int[] n = new int[5];
      for (int k = 0; k < 20; k++) n[k / 4] = n[k / 4] << 8 | (at + k < bytes.length ? bytes[at + k] & 255 : 32);
      last = x.feed(n[0], n[1], n[2], n[3], n[4]);
    }
    return last;
  }

  static int read(OpenCross x, String text) {
    feedAll(x, text);
    return x.text(text.length());
  }

  static void fault(String text, int place, int kind) {
    due("text '" + text + "'", read(new OpenCross(), text), -2 - (8 * place + kind));
  }

  static void fine(String text, int orders) { due("text '" + text + "'", read(new OpenCross(), text), orders); }

  static void row(OpenCross x, int order, int... due) {
    for (int w = 0; w < due.length; w++) due("order(" + order + ", " + w + ")", x.order(order, w), due[w]);
  }

  static void result(OpenCross x, int... due) {
    for (int w = 0; w < due.length; w++) { int a = w; due("crossed(" + w + ")", get(() -> x.crossed(a)), due[w]); }
  }

  static void fills(OpenCross x, int... due) {
    for (int o = 0; o < due.length; o++) due("fill(" + o + ")", x.fill(o), due[o]);
  }

  static void curve(OpenCross x, int price, int... due) {
    for (int w = 0; w < due.length; w++) { int a = w; due("curve(" + price + ", " + w + ")", get(() -> x.curve(price, a)), due[w]); }
  }

  /** Order and how many of each slice in turn. */
  static void slices(OpenCross x, int side, int price, int... due) {
    due("slice(" + side + ", " + price + ", -1, 0)", x.slice(side, price, -1, 0), due.length / 2);
    for (int k = 0; k < due.length; k++) due("slice(" + side + ", " + price + ", " + k / 2 + ", " + k % 2 + ")", x.slice(side, price, k / 2, k % 2), due[k]);
  }

  static void trades(OpenCross x, int... due) {
    due("trade(-1, 0)", x.trade(-1, 0), due.length / 3);
    for (int k = 0; k < due.length; k++) due("trade(" + k / 3 + ", " + k % 3 + ")", x.trade(k / 3, k % 3), due[k]);
  }

  static void counts(OpenCross x, int... due) {
    for (int w = 0; w < due.length; w++) due("count(" + w + ")", x.count(w), due[w]);
  }

  /** 150 are sold at 99, 300 bought at 100 and above, 100 sold at 101. */
  static OpenCross four() {
    OpenCross x = new OpenCross();
    x.told(0, LIMIT, 100, 102, 0, 0, 1);
    x.told(0, LIMIT, 200, 100, 0, 0, 2);
    x.told(1, LIMIT, 150, 99, 0, 0, 3);
    x.told(1, LIMIT, 100, 101, 0, 0, 1);
    return x;
  }

  /** Forty that buy one each at 40, so that there is no price. */
  static OpenCross forty() {
    OpenCross x = new OpenCross();
    for (int k = 0; k < 40; k++) buy(x, LIMIT, 1, 40);
    return x;
  }

  /** Much of what can be asked of an opening of few orders, to see that nothing has changed. */
  static String seen(OpenCross x) {
    StringBuilder b = new StringBuilder();
    for (int w = 0; w <= 10; w++) b.append(' ').append(x.count(w));
    for (int o = 0; o < x.count(0); o++) {
      b.append(" o").append(x.fill(o));
      for (int w = 0; w < 8; w++) b.append(' ').append(x.order(o, w));
    }
    for (int w = 0; w <= 6; w++) b.append(" c").append(x.crossed(w));
    b.append(" n").append(x.notice(0)).append(" t").append(x.trade(-1, 0)).append(" g").append(x.gain());
    for (int i = 0; i < x.count(10) && i < 8; i++) b.append(" p").append(x.past(i, 0)).append(' ').append(x.past(i, 1));
    return b.toString();
  }

  static void unchanged(String call, OpenCross x, Test test) {
    String before = seen(x);
    test.run();
    String after = seen(x);
    if (!before.equals(after)) {
      wrong++;
      System.out.println(promise + ": " + call + " changed" + before + " to" + after);
    }
  }
}
