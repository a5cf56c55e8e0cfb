/** What acts (promises 1 and 4 to 12, and past()): each sentence that names an edge, or what is refused, has a test of its own. */
public final class OpenCrossActEdges extends Checks {

  private static void newObject() {
    edge("1: no ORDERS", () -> {
      OpenCross x = new OpenCross();
      due("count(0)", x.count(0), 0);
      due("count(5)", x.count(5), 0);
      due("order(0, 0)", x.order(0, 0), -1);
      due("fill(0)", x.fill(0), -1);
    });
    edge("1: REFERENCE 100 at first, COLLAR 1, 999 at first, GATHERING at first", () -> counts(new OpenCross(), 0, GATHERING, 100, 1, 999));
    edge("The constants: NONE is -1", () -> due("NONE", OpenCross.NONE, -1));
    edge("1: one object knows nothing of another", () -> {
      OpenCross x = four();
      OpenCross y = new OpenCross();
      x.cross();
      y.feed(0, 0, 0, 0, 0);
      counts(y, 0, GATHERING, 100, 1, 999, 0, 0, 1000, 0, 20, 0);
      counts(x, 4, CROSSED, 100, 1, 999, 2, 100, 101, 5, 0, 1);
    });
    edge("an object is used for 512 calls: all of them are answered", () -> {
      OpenCross x = four();
      for (int k = 1; k <= 250; k++) {
        due("cross()", x.cross(), k == 1 ? 150 : 0);
        due("open()", x.open(), 2);
      }
      due("count(10)", x.count(10), 250);
      due("past(7, 0)", get(() -> x.past(7, 0)), -1);
    });
  }

  private static void told() {
    edge("4: its number: as they come", () -> {
      OpenCross x = new OpenCross();
      for (int k = 0; k < 40; k++) due("told", x.told(k % 2, k % 5, 5, 5, 5, 0, 0), k);
      due("count(0)", x.count(0), 40);
    });
    edge("4: NONE: SIDE 0, 1", () -> refusesBut(0, -1, 2));
    edge("4: NONE: KIND 0 to 4", () -> refusesBut(1, -1, 5));
    edge("4: NONE: QUANTITY 1 to 9999", () -> refusesBut(2, 0, 10000));
    edge("4: NONE: PRICE 1 to 999", () -> refusesBut(3, 0, 1000));
    edge("4: NONE: SHOWS of an ICE, 1 to QUANTITY", () -> {
      OpenCross x = new OpenCross();
      due("told(shows 0)", x.told(0, ICE, 5, 5, 0, 0, 0), -1);
      due("told(shows -1)", x.told(0, ICE, 5, 5, -1, 0, 0), -1);
      due("told(shows 6)", x.told(0, ICE, 5, 5, 6, 0, 0), -1);
      due("told(shows far)", x.told(0, ICE, 5, 5, FAR, 0, 0), -1);
      due("told(shows deep)", x.told(0, ICE, 5, 5, DEEP, 0, 0), -1);
      due("told(shows 1)", x.told(0, ICE, 5, 5, 1, 0, 0), 0);
      due("told(shows 5)", x.told(0, ICE, 5, 5, 5, 0, 0), 1);
      row(x, 0, 0, ICE, 5, 5, 1);
      row(x, 1, 0, ICE, 5, 5, 5);
    });
    edge("4: NONE: LEAST 0 to QUANTITY", () -> {
      for (int kind = MARKET; kind <= EVEN; kind++) {
        OpenCross x = new OpenCross();
        due("told(least -1)", x.told(0, kind, 5, 5, 5, -1, 0), -1);
        due("told(least 6)", x.told(0, kind, 5, 5, 5, 6, 0), -1);
        due("told(least far)", x.told(0, kind, 5, 5, 5, FAR, 0), -1);
        due("told(least deep)", x.told(0, kind, 5, 5, 5, DEEP, 0), -1);
        due("told(least 0)", x.told(0, kind, 5, 5, 5, 0, 0), 0);
        due("told(least 5)", x.told(0, kind, 5, 5, 5, 5, 0), 1);
        due("order(1, 5)", x.order(1, 5), 5);
      }
    });
    edge("4: NONE: OWNER 0 to 7", () -> refusesBut(6, -1, 8));
    edge("4: the least and the most of all bounds are good", () -> {
      OpenCross x = new OpenCross();
      due("told", x.told(0, LIMIT, 1, 1, 0, 0, 0), 0);
      due("told", x.told(1, EVEN, 9999, 999, 0, 9999, 7), 1);
      row(x, 0, 0, LIMIT, 1, 1, 0, 0, 0, 0);
      row(x, 1, 1, EVEN, 9999, 999, 0, 9999, 7, 0);
    });
    edge("4: price whatever, if the KIND has none (MARKET): 0", () -> {
      OpenCross x = new OpenCross();
      int[] prices = {0, 1, 999, 1000, -1, FAR, DEEP};
      for (int k = 0; k < prices.length; k++) {
        due("told", x.told(0, MARKET, 5, prices[k], 0, 0, 0), k);
        due("order(" + k + ", 3)", x.order(k, 3), 0);
      }
    });
    edge("4: shows whatever, if the KIND has none (all but ICE): 0", () -> {
      OpenCross x = new OpenCross();
      int[] shows = {0, 1, 5, 6, -1, FAR, DEEP};
      for (int k = 0; k < 28; k++) {
        int kind = new int[] {MARKET, LIMIT, HIDDEN, EVEN}[k % 4];
        due("told", x.told(1, kind, 5, 5, shows[k / 4], 0, 0), k);
        due("order(" + k + ", 4)", x.order(k, 4), 0);
      }
    });
    edge("4: NONE: 40 there are", () -> {
      OpenCross x = forty();
      unchangedFew(x, () -> due("told", buy(x, LIMIT, 1, 40), -1));
    });
    edge("4: NONE: 40 there are (GONE ones, too)", () -> {
      OpenCross x = forty();
      for (int k = 0; k < 40; k++) x.gone(k);
      due("count(5)", x.count(5), 0);
      due("told", buy(x, LIMIT, 1, 40), -1);
    });
    edge("4: NONE: 40 there are; not once one is taken BACK, or forgotten by open()", () -> {
      OpenCross x = forty();
      x.back();
      due("told", sell(x, LIMIT, 1, 40), 39);
      x.cross();
      due("open()", x.open(), 38);
      due("told", buy(x, LIMIT, 1, 40), 38);
      due("told", buy(x, LIMIT, 1, 40), 39);
      due("told", buy(x, LIMIT, 1, 40), -1);
    });
    edge("4: NONE: CROSSED", () -> {
      OpenCross x = four();
      x.cross();
      unchanged("told", x, () -> due("told", buy(x, LIMIT, 1, 1), -1));
      x.open();
      due("told, open", buy(x, LIMIT, 1, 1), 2);
    });
  }

  /** Each of an order's numbers out of its bounds, by one and by far, all else being good. */
  private static void refusesBut(int which, int below, int above) {
    OpenCross x = four();
    unchanged("told of others", x, () -> {
      for (int bad : new int[] {below, above, FAR, DEEP}) {
        int[] a = {0, LIMIT, 5, 5, 0, 0, 0};
        a[which] = bad;
        due("told(.. " + bad + " ..)", x.told(a[0], a[1], a[2], a[3], a[4], a[5], a[6]), -1);
        if (which != 3 && which != 1) due("told(.. " + bad + " ..)", x.told(which == 0 ? bad : 1, MARKET, a[2], 0, 0, 0, a[6]), -1);
      }
    });
    due("told of good ones", x.told(0, LIMIT, 5, 5, 0, 0, 0), 4);
  }

  private static void unchangedFew(OpenCross x, Test test) {
    int[] before = new int[11];
    for (int w = 0; w <= 10; w++) before[w] = x.count(w);
    test.run();
    counts(x, before);
  }

  private static void gone() {
    edge("5: what QUANTITY it had", () -> {
      OpenCross x = four();
      due("gone(3)", x.gone(3), 100);
      due("gone(0)", x.gone(0), 100);
      row(x, 0, 0, LIMIT, 100, 102, 0, 0, 1, 1);
      due("count(5)", x.count(5), 2);
      due("count(0)", x.count(0), 4);
    });
    edge("5: NONE: others", () -> {
      OpenCross x = four();
      unchanged("gone", x, () -> {
        for (int o : new int[] {-1, -2, 4, 40, 41, FAR, DEEP}) due("gone(" + o + ")", x.gone(o), -1);
      });
      due("gone(0) of none", new OpenCross().gone(0), -1);
    });
    edge("5: NONE: GONE", () -> {
      OpenCross x = four();
      x.gone(1);
      unchanged("gone(1)", x, () -> due("gone(1)", x.gone(1), -1));
      x.back();
      due("gone(1), the going taken back", x.gone(1), 200);
    });
    edge("5: NONE: CROSSED", () -> {
      OpenCross x = four();
      x.cross();
      unchanged("gone", x, () -> {
        due("gone(1)", x.gone(1), -1);
        due("gone(0): gone by the cross", x.gone(0), -1);
      });
    });
    edge("5: the 40th", () -> {
      OpenCross x = forty();
      due("gone(39)", x.gone(39), 1);
      due("gone(40)", x.gone(40), -1);
    });
  }

  private static void less() {
    edge("6: what it was; 1 and above", () -> {
      OpenCross x = four();
      due("less(0, 99)", x.less(0, 99), 100);
      due("less(0, 1)", x.less(0, 1), 99);
      due("order(0, 2)", x.order(0, 2), 1);
    });
    edge("6: NONE: below 1", () -> {
      OpenCross x = four();
      unchanged("less", x, () -> {
        for (int q : new int[] {0, -1, DEEP}) due("less(0, " + q + ")", x.less(0, q), -1);
      });
    });
    edge("6: NONE: not less", () -> {
      OpenCross x = four();
      unchanged("less", x, () -> {
        for (int q : new int[] {100, 101, 9999, FAR}) due("less(0, " + q + ")", x.less(0, q), -1);
      });
      x.less(0, 1);
      due("less(0, 1) of one", x.less(0, 1), -1);
    });
    edge("6: NONE: others", () -> {
      OpenCross x = four();
      unchanged("less", x, () -> {
        for (int o : new int[] {-1, 4, 40, FAR, DEEP}) due("less(" + o + ", 1)", x.less(o, 1), -1);
      });
      due("less(0, 1) of none", new OpenCross().less(0, 1), -1);
    });
    edge("6: NONE: GONE", () -> {
      OpenCross x = four();
      x.gone(0);
      unchanged("less", x, () -> due("less(0, 1)", x.less(0, 1), -1));
    });
    edge("6: NONE: CROSSED", () -> {
      OpenCross x = four();
      x.cross();
      unchanged("less", x, () -> due("less(1, 1)", x.less(1, 1), -1));
    });
    edge("6: SHOWS, LEAST no more than it: as much stays, more does not", () -> {
      OpenCross x = new OpenCross();
      x.told(0, ICE, 50, 9, 20, 30, 0);
      x.less(0, 30);
      row(x, 0, 0, ICE, 30, 9, 20, 30, 0, 0);
      x.less(0, 29);
      row(x, 0, 0, ICE, 29, 9, 20, 29, 0, 0);
      x.less(0, 20);
      row(x, 0, 0, ICE, 20, 9, 20, 20, 0, 0);
      x.less(0, 19);
      row(x, 0, 0, ICE, 19, 9, 19, 19, 0, 0);
      x.less(0, 1);
      row(x, 0, 0, ICE, 1, 9, 1, 1, 0, 0);
    });
  }

  private static void freeze() {
    edge("7: FROZEN: true", () -> {
      OpenCross x = new OpenCross();
      due("freeze()", x.freeze(), true);
      due("count(1)", x.count(1), FROZEN);
    });
    edge("7: false: not GATHERING: FROZEN", () -> {
      OpenCross x = four();
      x.freeze();
      unchanged("freeze()", x, () -> due("freeze()", x.freeze(), false));
    });
    edge("7: false: not GATHERING: CROSSED", () -> {
      OpenCross x = four();
      x.cross();
      unchanged("freeze()", x, () -> due("freeze()", x.freeze(), false));
    });
    edge("7: GATHERING again behind open() and behind back()", () -> {
      OpenCross x = four();
      x.freeze();
      x.back();
      due("freeze()", x.freeze(), true);
      x.cross();
      x.open();
      due("freeze()", x.freeze(), true);
    });
  }

  private static void cross() {
    edge("8: VOLUME, GATHERING and FROZEN", () -> {
      OpenCross x = four();
      due("cross()", x.cross(), 150);
      due("count(1)", x.count(1), CROSSED);
      OpenCross y = four();
      y.freeze();
      due("cross(), frozen", y.cross(), 150);
      due("count(1)", y.count(1), CROSSED);
    });
    edge("8: 0: no PRICE: CROSSED all the same", () -> {
      OpenCross x = new OpenCross();
      due("cross() of nothing", x.cross(), 0);
      counts(x, 0, CROSSED, 100, 1, 999, 0, 0, 1000, 1, 0, 1);
      OpenCross y = four();
      y.collar(103, 999);
      due("cross()", y.cross(), 0);
      due("count(5)", y.count(5), 4);
      due("count(10)", y.count(10), 1);
    });
    edge("8: NONE: it is already", () -> {
      OpenCross x = four();
      x.cross();
      unchanged("cross()", x, () -> due("cross()", x.cross(), -1));
    });
    edge("==== 3: FILLS leave QUANTITIES", () -> {
      OpenCross x = four();
      x.cross();
      row(x, 0, 0, LIMIT, 0, 102, 0, 0, 1, 1);
      row(x, 1, 0, LIMIT, 150, 100, 0, 0, 2, 0);
      row(x, 2, 1, LIMIT, 0, 99, 0, 0, 3, 1);
      row(x, 3, 1, LIMIT, 100, 101, 0, 0, 1, 0);
    });
    edge("==== 3: SHOWS, LEAST no more than what is left: as much, more, less", () -> {
      int[][] cases = {{69, 31, 30, 30}, {70, 30, 30, 30}, {71, 29, 29, 29}, {10, 90, 30, 30}};
      for (int[] c : cases) {
        OpenCross x = new OpenCross();
        x.told(0, ICE, 100, 50, 30, Math.min(c[0], 30), 5);
        sell(x, MARKET, c[0], 0);
        due("cross()", x.cross(), c[0]);
        row(x, 0, 0, ICE, c[1], 50, c[2], Math.min(c[0], c[3]), 5, 0);
      }
    });
    edge("==== 3: what has none left is GONE, what has one left is not", () -> {
      OpenCross x = new OpenCross();
      buy(x, LIMIT, 5, 100);
      buy(x, HIDDEN, 5, 100);
      sell(x, LIMIT, 9, 100);
      x.cross();
      row(x, 0, 0, LIMIT, 0, 100, 0, 0, 0, 1);
      row(x, 1, 0, HIDDEN, 1, 100, 0, 0, 0, 0);
      row(x, 2, 1, LIMIT, 0, 100, 0, 0, 0, 1);
    });
    edge("==== 3: MARKET, EVEN ones are GONE, whatever they have left", () -> {
      OpenCross x = new OpenCross();
      buy(x, MARKET, 5, 0);
      buy(x, EVEN, 6, 9);
      x.cross();
      row(x, 0, 0, MARKET, 5, 0, 0, 0, 0, 1);
      row(x, 1, 0, EVEN, 6, 9, 0, 0, 0, 1);
      due("open()", x.open(), 0);
    });
    edge("==== 3: one that is OUT stays as it is; MARKET, EVEN ones that are OUT are GONE", () -> {
      OpenCross x = new OpenCross();
      sell(x, LIMIT, 4, 100);
      x.told(0, ICE, 9, 100, 3, 5, 2);
      x.told(0, MARKET, 9, 0, 0, 5, 0);
      x.cross();
      fills(x, 0, -2, -2);
      row(x, 1, 0, ICE, 9, 100, 3, 5, 2, 0);
      due("order(2, 7)", x.order(2, 7), 1);
      due("open()", x.open(), 2);
    });
    edge("==== 3: one that was GONE ahead of it stays as it was", () -> {
      OpenCross x = four();
      x.gone(1);
      x.cross();
      row(x, 1, 0, LIMIT, 200, 100, 0, 0, 2, 1);
    });
  }

  private static void open() {
    edge("9: NONE: not CROSSED: GATHERING", () -> {
      OpenCross x = four();
      unchanged("open()", x, () -> due("open()", x.open(), -1));
    });
    edge("9: NONE: not CROSSED: FROZEN", () -> {
      OpenCross x = four();
      x.freeze();
      unchanged("open()", x, () -> due("open()", x.open(), -1));
    });
    edge("9: how many ORDERS stay: none", () -> {
      OpenCross x = new OpenCross();
      x.cross();
      due("open()", x.open(), 0);
      counts(x, 0, GATHERING, 100, 1, 999, 0, 0, 1000, 2, 0, 1);
    });
    edge("9: how many ORDERS stay: forty", () -> {
      OpenCross x = forty();
      x.cross();
      due("open()", x.open(), 40);
      due("order(39, 2)", x.order(39, 2), 1);
      due("told", buy(x, LIMIT, 1, 1), -1);
    });
    edge("==== 3: GONE ones are forgotten, others are numbered anew, in order", () -> {
      OpenCross x = new OpenCross();
      for (int k = 0; k < 6; k++) x.told(0, ICE, 10 + k, 20 + k, 5, k, k);
      x.gone(0);
      x.gone(3);
      x.gone(5);
      x.cross();
      due("open()", x.open(), 3);
      row(x, 0, 0, ICE, 11, 21, 5, 1, 1, 0);
      row(x, 1, 0, ICE, 12, 22, 5, 2, 2, 0);
      row(x, 2, 0, ICE, 14, 24, 5, 4, 4, 0);
      due("order(3, 0)", x.order(3, 0), -1);
      due("told", buy(x, LIMIT, 1, 1), 3);
    });
    edge("==== 3: REFERENCE is THE PRICE, if there was one", () -> {
      OpenCross x = four();
      x.reference(50);
      x.cross();
      due("count(2), crossed", x.count(2), 50);
      x.notice(0);
      x.curve(1, 0);
      x.open();
      due("count(2)", x.count(2), 100);
    });
    edge("==== 3: REFERENCE stays, if there was no PRICE", () -> {
      OpenCross x = four();
      x.reference(50);
      x.collar(103, 999);
      x.cross();
      x.open();
      counts(x, 4, GATHERING, 50, 103, 999);
    });
    edge("==== 3: open(): nothing of THE CROSS that was is left", () -> {
      OpenCross x = four();
      x.cross();
      x.open();
      result(x, -1, 0, 0, 0, 1, 0, 0);
      fills(x, 0, 0, -1);
      trades(x);
      due("open() again", x.open(), -1);
      due("cross()", x.cross(), 0);
    });
  }

  private static void terms() {
    edge("10: what it was", () -> {
      OpenCross x = new OpenCross();
      due("reference(1)", x.reference(1), 100);
      due("reference(999)", x.reference(999), 1);
      due("reference(999) again", x.reference(999), 999);
      due("count(8): each is an act", x.count(8), 3);
    });
    edge("10: NONE: others", () -> {
      OpenCross x = four();
      unchanged("reference", x, () -> {
        for (int p : new int[] {0, 1000, -1, FAR, DEEP}) due("reference(" + p + ")", x.reference(p), -1);
      });
    });
    edge("10: NONE: not GATHERING: FROZEN", () -> {
      OpenCross x = four();
      x.freeze();
      unchanged("reference", x, () -> due("reference(5)", x.reference(5), -1));
    });
    edge("10: NONE: not GATHERING: CROSSED", () -> {
      OpenCross x = four();
      x.cross();
      unchanged("reference", x, () -> due("reference(5)", x.reference(5), -1));
    });
    edge("11: COLLAR: true: low as great as high, the whole, either end", () -> {
      OpenCross x = new OpenCross();
      int[][] good = {{1, 1}, {999, 999}, {5, 5}, {5, 6}, {1, 999}};
      for (int[] g : good) {
        due("collar(" + g[0] + ", " + g[1] + ")", x.collar(g[0], g[1]), true);
        due("count(3)", x.count(3), g[0]);
        due("count(4)", x.count(4), g[1]);
      }
    });
    edge("11: false: others", () -> {
      OpenCross x = four();
      int[][] bad = {{0, 5}, {5, 1000}, {6, 5}, {999, 1}, {0, 0}, {1000, 1000}, {-1, 5}, {5, FAR}, {DEEP, 5}, {DEEP, FAR}, {FAR, DEEP}};
      unchanged("collar", x, () -> {
        for (int[] b : bad) due("collar(" + b[0] + ", " + b[1] + ")", x.collar(b[0], b[1]), false);
      });
    });
    edge("11: false: not GATHERING: FROZEN", () -> {
      OpenCross x = four();
      x.freeze();
      unchanged("collar", x, () -> due("collar(1, 5)", x.collar(1, 5), false));
    });
    edge("11: false: not GATHERING: CROSSED", () -> {
      OpenCross x = four();
      x.cross();
      unchanged("collar", x, () -> due("collar(1, 5)", x.collar(1, 5), false));
    });
  }

  private static void back() {
    edge("12: false: nothing can be: at first", () -> due("back()", new OpenCross().back(), false));
    edge("12: false: nothing can be: all is taken BACK", () -> {
      OpenCross x = four();
      for (int k = 0; k < 4; k++) due("back()", x.back(), true);
      due("back()", x.back(), false);
      counts(x, 0, GATHERING, 100, 1, 999, 0, 0, 1000, 0, 0, 0);
    });
    edge("ACTS: the latest 12", () -> {
      OpenCross x = new OpenCross();
      for (int k = 1; k <= 13; k++) {
        x.reference(k);
        due("count(8)", x.count(8), Math.min(k, 12));
      }
      for (int k = 12; k >= 1; k--) {
        due("back()", x.back(), true);
        due("count(2)", x.count(2), k);
      }
      due("back() of the 13th latest", x.back(), false);
      due("count(2)", x.count(2), 1);
    });
    edge("ACTS: twelve and no more, however often it goes round", () -> {
      OpenCross x = new OpenCross();
      for (int k = 1; k <= 30; k++) x.reference(k);
      for (int k = 29; k >= 22; k--) x.back();
      due("count(2)", x.count(2), 22);
      due("count(8)", x.count(8), 4);
      for (int k = 101; k <= 110; k++) x.reference(k);
      for (int k = 109; k >= 101; k--) {
        due("back()", x.back(), true);
        due("count(2)", x.count(2), k);
      }
      for (int k = 22; k >= 20; k--) {
        due("back()", x.back(), true);
        due("count(2)", x.count(2), k);
      }
      due("back()", x.back(), false);
    });
    edge("ACTS: what was taken BACK can not come again", () -> {
      OpenCross x = four();
      x.back();
      x.back();
      due("told", sell(x, MARKET, 7, 0), 2);
      row(x, 2, 1, MARKET, 7, 0, 0, 0, 0, 0);
      due("order(3, 0)", x.order(3, 0), -1);
      due("back()", x.back(), true);
      due("count(0)", x.count(0), 2);
    });
    edge("ACTS: if not refused", () -> {
      OpenCross x = new OpenCross();
      x.told(2, 0, 0, 0, 0, 0, 0);
      x.gone(0);
      x.less(0, 1);
      x.open();
      x.reference(0);
      x.collar(5, 4);
      due("count(8)", x.count(8), 0);
      x.freeze();
      x.freeze();
      x.reference(5);
      x.collar(4, 5);
      due("count(8)", x.count(8), 1);
      x.cross();
      x.cross();
      x.freeze();
      due("count(8)", x.count(8), 2);
    });
    edge("ACTS: told(), gone(), less() are taken BACK with all that they did", () -> {
      undoes(x -> x.told(0, ICE, 9, 9, 9, 9, 7));
      undoes(x -> x.gone(1));
      undoes(x -> x.less(2, 40));
    });
    edge("ACTS: reference(), collar(), freeze() are taken BACK with all that they did", () -> {
      undoes(x -> x.reference(55));
      undoes(x -> x.collar(90, 110));
      undoes(OpenCross::freeze);
    });
    edge("ACTS: cross() and open() are taken BACK with all that they did", () -> {
      OpenCross x = four();
      x.freeze();
      x.cross();
      String crossed = seen(x);
      x.open();
      x.back();
      due("as it was crossed?", crossed.equals(seen(x)), true);
      x.back();
      counts(x, 4, FROZEN, 100, 1, 999, 4, 102, 99, 5, 0, 1);
      row(x, 0, 0, LIMIT, 100, 102, 0, 0, 1, 0);
      fills(x, 100, 50, 150, 0);
    });
    edge("ACTS: open() taken BACK when cross() no longer can be: CROSSED, as it was", () -> {
      OpenCross x = four();
      x.cross();
      x.open();
      for (int k = 1; k <= 11; k++) x.reference(k);
      for (int k = 1; k <= 12; k++) due("back()", x.back(), true);
      due("back()", x.back(), false);
      due("count(1)", x.count(1), CROSSED);
      result(x, 100, 150, 150, 2, 1, 0, 2);
      fills(x, 100, 50, 150, 0);
      due("open()", x.open(), 2);
      due("count(2)", x.count(2), 100);
    });
    edge("ACTS: feed() and back() are none", () -> {
      OpenCross x = four();
      x.feed(0, 0, 0, 0, 0);
      x.back();
      due("count(8)", x.count(8), 3);
      due("count(9)", x.count(9), 20);
      due("back()", x.back(), true);
      due("count(0)", x.count(0), 2);
    });
    edge("ACTS: what is asked is none", () -> {
      OpenCross x = four();
      unchanged("what is asked", x, () -> askAll(x));
      x.freeze();
      unchanged("what is asked, frozen", x, () -> askAll(x));
      OpenCross y = four();
      y.cross();
      unchanged("what is asked, crossed", y, () -> askAll(y));
    });
  }

  interface Act { void on(OpenCross x); }

  private static void undoes(Act act) {
    OpenCross x = four();
    String before = seen(x);
    act.on(x);
    due("another?", before.equals(seen(x)), false);
    due("back()", x.back(), true);
    due("as before?", before.equals(seen(x)), true);
  }

  private static void askAll(OpenCross x) {
    x.order(0, 2);
    x.curve(100, 4);
    x.crossed(0);
    x.fill(1);
    x.slice(0, 100, 0, 0);
    x.trade(0, 0);
    x.notice(1);
    x.without(0);
    x.with(0, ICE, 9999, 999);
    x.with(1, MARKET, 9999, 0);
    x.moves(0, 0);
    x.moves(1, 1);
    x.swings();
    x.level(1, 0, 2);
    x.owner(1, 2);
    x.gain();
    x.left();
    x.count(0);
  }

  private static void past() {
    edge("25: NoSuchElementException: none such: at first", () -> {
      OpenCross x = four();
      due("past(0, 0)", get(() -> x.past(0, 0)), THROWS);
    });
    edge("25: NoSuchElementException: others", () -> {
      OpenCross x = four();
      x.cross();
      int[][] bad = {{0, -1}, {0, 4}, {-1, 0}, {1, 0}, {0, FAR}, {0, DEEP}, {FAR, 0}, {DEEP, 0}, {FAR, FAR}, {DEEP, DEEP}};
      for (int[] b : bad) due("past(" + b[0] + ", " + b[1] + ")", get(() -> x.past(b[0], b[1])), THROWS);
    });
    edge("25: THE PRICE, VOLUME, REST, TRADES; of none NONE, 0, 0, 0", () -> {
      OpenCross x = four();
      x.cross();
      x.open();
      x.cross();
      int[][] due = {{-1, 0, 0, 0}, {100, 150, 150, 2}};
      for (int i = 0; i < 2; i++) for (int w = 0; w < 4; w++) { int a = i, b = w; due("past(" + a + ", " + b + ")", get(() -> x.past(a, b)), due[a][b]); }
      due("past(2, 0)", get(() -> x.past(2, 0)), THROWS);
    });
    edge("25: (0: the latest; eight are kept)", () -> {
      OpenCross x = new OpenCross();
      for (int k = 1; k <= 10; k++) {
        buy(x, LIMIT, k, 100 + k);
        sell(x, LIMIT, k, 100 + k);
        due("cross()", x.cross(), k);
        x.open();
        int last = Math.min(k, 8);
        for (int i = 0; i < last; i++) { int a = i; due("past(" + a + ", 0)", get(() -> x.past(a, 0)), 100 + k - a); }
        due("past(" + last + ", 0)", get(() -> x.past(last, 0)), THROWS);
      }
      due("past(7, 1)", get(() -> x.past(7, 1)), 3);
      due("count(10)", x.count(10), 10);
    });
    edge("25: what is taken BACK stays", () -> {
      OpenCross x = four();
      x.cross();
      x.back();
      due("past(0, 0)", get(() -> x.past(0, 0)), 100);
      due("count(10)", x.count(10), 1);
      x.collar(101, 101);
      x.cross();
      due("past(0, 0)", get(() -> x.past(0, 0)), 101);
      due("past(1, 0)", get(() -> x.past(1, 0)), 100);
      due("count(10)", x.count(10), 2);
    });
    edge("25: what is refused is no time it was CROSSED", () -> {
      OpenCross x = four();
      x.cross();
      x.cross();
      due("past(1, 0)", get(() -> x.past(1, 0)), THROWS);
      due("count(10)", x.count(10), 1);
    });
    edge("25, 29: since text() or at first", () -> {
      OpenCross x = four();
      x.cross();
      read(x, "reference 5");
      due("past(0, 0)", get(() -> x.past(0, 0)), THROWS);
      due("count(10)", x.count(10), 0);
      x.cross();
      due("past(0, 0)", get(() -> x.past(0, 0)), -1);
      due("count(10)", x.count(10), 1);
    });
  }

  public static void main(String[] args) {
    newObject();
    told();
    gone();
    less();
    freeze();
    cross();
    open();
    terms();
    back();
    past();
    end();
  }
}
