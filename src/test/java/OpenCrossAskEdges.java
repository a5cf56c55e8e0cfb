/** What is asked (promises 13 to 24 and 26 to 29): each sentence that names an edge, or what is refused, has a test of its own. */
public final class OpenCrossAskEdges extends Checks {

  /** 10 are bought up to 100, 5 sold there by a market order, and nothing else. */
  private static OpenCross two() {
    OpenCross x = new OpenCross();
    buy(x, LIMIT, 10, 100);
    sell(x, MARKET, 5, 0);
    return x;
  }

  private static void order() {
    edge("13: what 0 to 7", () -> {
      OpenCross x = new OpenCross();
      x.told(1, ICE, 50, 9, 20, 30, 6);
      x.gone(0);
      row(x, 0, 1, ICE, 50, 9, 20, 30, 6, 1);
    });
    edge("13: NONE: another what", () -> {
      OpenCross x = four();
      for (int w : new int[] {-1, 8, FAR, DEEP}) due("order(0, " + w + ")", x.order(0, w), -1);
    });
    edge("13: NONE: another ORDER", () -> {
      OpenCross x = four();
      for (int o : new int[] {-1, 4, 40, 41, FAR, DEEP}) for (int w = 0; w < 8; w++) due("order(" + o + ", " + w + ")", x.order(o, w), -1);
    });
    edge("13: NONE: an ORDER whose coming was taken BACK, or that was forgotten", () -> {
      OpenCross x = four();
      x.back();
      due("order(3, 0)", x.order(3, 0), -1);
      x.cross();
      due("order(2, 0)", x.order(2, 0), 1);
      x.open();
      due("order(0, 2)", x.order(0, 2), 150);
      due("order(1, 0)", x.order(1, 0), -1);
    });
    edge("13: the first and the 40th", () -> {
      OpenCross x = forty();
      due("order(0, 3)", x.order(0, 3), 40);
      due("order(39, 3)", x.order(39, 3), 40);
      due("order(40, 3)", x.order(40, 3), -1);
    });
  }

  private static void curves() {
    edge("14: NoSuchElementException: PRICE below 1, above 999", () -> {
      OpenCross x = four();
      for (int p : new int[] {0, 1000, -1, FAR, DEEP}) for (int w = 0; w < 6; w++) { int a = w; due("curve(" + p + ", " + w + ")", get(() -> x.curve(p, a)), THROWS); }
    });
    edge("14: NoSuchElementException: another what", () -> {
      OpenCross x = four();
      for (int w : new int[] {-1, 6, FAR, DEEP}) due("curve(100, " + w + ")", get(() -> x.curve(100, w)), THROWS);
    });
    edge("14: at 1 and at 999", () -> {
      OpenCross x = four();
      curve(x, 1, 300, 0, 300, 0, 0, 300);
      curve(x, 999, 0, 250, -250, 0, 0, -250);
    });
    edge("14: without ORDERS 0", () -> curve(new OpenCross(), 500, 0, 0, 0, 0, 0, 0));
    edge("14: by all ORDERS: outside of COLLAR, and those that would be OUT", () -> {
      OpenCross x = four();
      x.collar(1, 1);
      wants(x, 0, 9, 101, 9);
      x.gone(0);
      x.gone(1);
      wants(x, 1, 1, 101, 0);
      curve(x, 101, 9, 251, -242, 0, 9, -242);
    });
    edge("14: by all ORDERS as they are, CROSSED, too", () -> {
      OpenCross x = four();
      x.cross();
      curve(x, 100, 150, 0, 150, 0, 0, 150);
      curve(x, 101, 0, 100, -100, 0, 0, -100);
    });
  }

  private static void crossed() {
    edge("15: NoSuchElementException: others", () -> {
      for (OpenCross x : new OpenCross[] {new OpenCross(), four()}) {
        for (int w : new int[] {-1, 7, FAR, DEEP}) due("crossed(" + w + ")", get(() -> x.crossed(w)), THROWS);
        x.cross();
        for (int w : new int[] {-1, 7, FAR, DEEP}) due("crossed(" + w + "), crossed", get(() -> x.crossed(w)), THROWS);
      }
    });
    edge("15: THE PRICE (NONE); 1 to 3: without a PRICE 0, 0, 0; 6: 0", () -> {
      OpenCross x = four();
      x.collar(103, 999);
      result(x, -1, 0, 0, 0, 1, 0, 0);
      x.cross();
      result(x, -1, 0, 0, 0, 1, 0, 0);
    });
    edge("15: without a PRICE, some being OUT: ROUNDS and how many are OUT all the same", () -> {
      OpenCross x = two();
      x.told(0, LIMIT, 9, 101, 0, 9, 0);
      x.gone(0);
      result(x, -1, 0, 0, 0, 2, 1, 0);
    });
    edge("15: nothing is left over of what was asked before it", () -> {
      OpenCross x = two();
      due("crossed(3)", x.crossed(3), 2);
      x.gone(0);
      result(x, -1, 0, 0, 0, 1, 0, 0);
    });
    edge("15: (CROSSED: as it was)", () -> {
      OpenCross x = four();
      wants(x, 1, 200, 99, 190);
      int[] was = new int[7];
      for (int w = 0; w < 7; w++) was[w] = x.crossed(w);
      due("crossed(5)", was[5], 1);
      x.cross();
      result(x, was);
    });
    edge("15: 6: how many PRICES KEY 0 leaves: one, all", () -> {
      OpenCross x = two();
      sell(x, LIMIT, 1, 100);
      due("one", x.crossed(6), 1);
      OpenCross y = new OpenCross();
      buy(y, MARKET, 1, 0);
      sell(y, MARKET, 1, 0);
      due("all", y.crossed(6), 999);
    });
  }

  private static void fill() {
    edge("16: NONE: others", () -> {
      OpenCross x = four();
      for (int o : new int[] {-1, 4, 40, 41, FAR, DEEP}) due("fill(" + o + ")", x.fill(o), -1);
      due("fill(0) of none", new OpenCross().fill(0), -1);
    });
    edge("16: NONE: GONE", () -> {
      OpenCross x = four();
      x.gone(0);
      fills(x, -1, 150, 150, 0);
    });
    edge("16: NONE: (CROSSED: GONE ahead of it), not by it", () -> {
      OpenCross x = four();
      x.gone(0);
      sell(x, MARKET, 9, 0);
      buy(x, EVEN, 9, 100);
      x.cross();
      fills(x, -1, 159, 150, 0, 9, 0);
    });
    edge("16: -2: it is OUT", () -> {
      OpenCross x = two();
      x.told(0, LIMIT, 9, 101, 0, 9, 0);
      fills(x, 5, 5, -2);
      x.cross();
      fills(x, 5, 5, -2);
    });
    edge("16: 0 where it has none", () -> {
      OpenCross x = new OpenCross();
      buy(x, LIMIT, 10, 100);
      fills(x, 0);
      x.cross();
      fills(x, 0);
    });
    edge("16: the 40th", () -> {
      OpenCross x = forty();
      x.back();
      sell(x, LIMIT, 50, 40);
      due("fill(39)", x.fill(39), 39);
      due("fill(40)", x.fill(40), -1);
    });
  }

  private static void slice() {
    edge("17: NONE: another SIDE", () -> {
      OpenCross x = four();
      for (int s : new int[] {-1, 2, FAR, DEEP}) {
        due("slice(" + s + ", 100, 0, 0)", x.slice(s, 100, 0, 0), -1);
        due("slice(" + s + ", 100, -1, 0)", x.slice(s, 100, -1, 0), -1);
      }
    });
    edge("17: NONE: another PRICE", () -> {
      OpenCross x = two();
      buy(x, MARKET, 1, 0);
      for (int p : new int[] {0, 1000, -1, FAR, DEEP}) {
        due("slice(0, " + p + ", 0, 0)", x.slice(0, p, 0, 0), -1);
        due("slice(0, " + p + ", -1, 0)", x.slice(0, p, -1, 0), -1);
      }
    });
    edge("17: NONE: another what", () -> {
      OpenCross x = four();
      for (int w : new int[] {-1, 2, FAR, DEEP}) {
        due("slice(0, 100, 0, " + w + ")", x.slice(0, 100, 0, w), -1);
        due("slice(0, 100, -1, " + w + ")", x.slice(0, 100, -1, w), -1);
      }
    });
    edge("17: NONE: none such", () -> {
      OpenCross x = four();
      for (int i : new int[] {2, 3, 80, -2, FAR, DEEP}) due("slice(0, 100, " + i + ", 0)", x.slice(0, 100, i, 0), -1);
      due("slice(0, 100, 1, 0): the last", x.slice(0, 100, 1, 0), 1);
      due("slice(0, 103, 0, 0) of none", x.slice(0, 103, 0, 0), -1);
    });
    edge("17: i NONE: how many SLICES, for either what", () -> {
      OpenCross x = four();
      for (int w = 0; w < 2; w++) {
        due("slice(0, 100, -1, " + w + ")", x.slice(0, 100, -1, w), 2);
        due("slice(0, 103, -1, " + w + "): none", x.slice(0, 103, -1, w), 0);
      }
    });
    edge("17: at 1 and at 999", () -> {
      OpenCross x = four();
      slices(x, 0, 1, 0, 100, 1, 200);
      slices(x, 1, 1);
      slices(x, 0, 999);
      slices(x, 1, 999, 2, 150, 3, 100);
    });
    edge("17: by all ORDERS: as they are now, CROSSED, too", () -> {
      OpenCross x = four();
      x.told(0, ICE, 90, 101, 60, 0, 0);
      slices(x, 0, 100, 0, 100, 4, 60, 4, 30, 1, 200);
      x.cross();
      due("crossed(1)", x.crossed(1), 190);
      slices(x, 0, 100, 1, 200);
    });
  }

  private static void trade() {
    edge("18: NONE: another what", () -> {
      OpenCross x = four();
      for (int w : new int[] {-1, 3, FAR, DEEP}) {
        due("trade(0, " + w + ")", x.trade(0, w), -1);
        due("trade(-1, " + w + ")", x.trade(-1, w), -1);
      }
    });
    edge("18: NONE: none such", () -> {
      OpenCross x = four();
      for (int i : new int[] {2, 3, 79, 80, -2, FAR, DEEP}) due("trade(" + i + ", 2)", x.trade(i, 2), -1);
      due("trade(1, 2): the last", x.trade(1, 2), 50);
      due("trade(0, 0) of none", new OpenCross().trade(0, 0), -1);
    });
    edge("18: i NONE: how many TRADES, for every what", () -> {
      for (int w = 0; w < 3; w++) {
        due("trade(-1, " + w + ")", four().trade(-1, w), 2);
        due("trade(-1, " + w + ") of none", new OpenCross().trade(-1, w), 0);
      }
    });
    edge("18: (CROSSED: as it was)", () -> {
      OpenCross x = four();
      x.cross();
      trades(x, 0, 2, 100, 1, 2, 50);
      due("trade(2, 0)", x.trade(2, 0), -1);
    });
  }

  private static void notice() {
    edge("19: NoSuchElementException: others", () -> {
      OpenCross x = four();
      for (int w : new int[] {-1, 4, 5, 7, FAR, DEEP}) due("notice(" + w + ")", get(() -> x.notice(w)), THROWS);
    });
    edge("19: without a PRICE NONE, 0, 0, 0, 0", () -> {
      OpenCross x = new OpenCross();
      int[] due = {-1, 0, 0, 0};
      for (int w = 0; w < 4; w++) due("notice(" + w + ")", x.notice(w), due[w]);
      due("notice(6)", x.notice(6), 0);
    });
    edge("19: whatever PHASE, as ORDERS are now", () -> {
      OpenCross x = four();
      sell(x, HIDDEN, 20, 90);
      due("notice(1)", x.notice(1), 150);
      x.freeze();
      due("notice(1), frozen", x.notice(1), 150);
      x.collar(1, 1);
      x.cross();
      due("crossed(1): as it was", x.crossed(1), 170);
      due("notice(1), crossed", x.notice(1), 0);
      due("notice(0), crossed", x.notice(0), -1);
    });
    edge("19: whatever PHASE: CROSSED, where some that is SHOWN could trade with what was OUT", () -> {
      OpenCross x = new OpenCross();
      wants(x, 0, 10, 100, 10);
      sell(x, LIMIT, 4, 90);
      x.cross();
      due("crossed(0)", x.crossed(0), -1);
      due("notice(0)", x.notice(0), 100);
      due("notice(1)", x.notice(1), 4);
      due("notice(2)", x.notice(2), 6);
      due("notice(3)", x.notice(3), 2);
      due("notice(6)", x.notice(6), 11);
    });
  }

  private static void without() {
    edge("20: -2: others", () -> {
      OpenCross x = four();
      for (int o : new int[] {-1, -2, 4, 40, FAR, DEEP}) due("without(" + o + ")", x.without(o), -2);
      due("without(0) of none", new OpenCross().without(0), -2);
    });
    edge("20: -2: GONE", () -> {
      OpenCross x = four();
      x.gone(3);
      due("without(3)", x.without(3), -2);
    });
    edge("20: -2: CROSSED", () -> {
      OpenCross x = four();
      x.cross();
      for (int o = 0; o < 4; o++) due("without(" + o + ")", x.without(o), -2);
      x.open();
      due("without(0), open", x.without(0), -1);
    });
    edge("20: THE PRICE (NONE), FROZEN, too", () -> {
      OpenCross x = two();
      x.freeze();
      due("without(0)", x.without(0), -1);
      due("without(1)", x.without(1), -1);
      due("crossed(0)", x.crossed(0), 100);
    });
    edge("20: of THE CROSS: others may be OUT without it, or no longer", () -> {
      OpenCross x = new OpenCross();
      wants(x, 0, 10, 100, 10);
      sell(x, LIMIT, 9, 100);
      sell(x, LIMIT, 1, 90);
      due("crossed(0)", x.crossed(0), 100);
      due("without(2)", x.without(2), -1);
      OpenCross y = new OpenCross();
      buy(y, LIMIT, 1, 101);
      wants(y, 0, 10, 100, 10);
      sell(y, LIMIT, 10, 95);
      due("crossed(5)", y.crossed(5), 1);
      due("crossed(0)", y.crossed(0), 95);
      due("without(0)", y.without(0), 100);
    });
    edge("20: the 40th", () -> {
      OpenCross x = forty();
      x.back();
      sell(x, LIMIT, 1, 40);
      due("without(39)", x.without(39), -1);
      due("without(38)", x.without(38), 40);
    });
  }

  private static void with() {
    edge("21: -2: SIDE 0, 1", () -> {
      for (int s : new int[] {-1, 2, FAR, DEEP}) due("with(" + s + ", 1, 5, 5)", four().with(s, LIMIT, 5, 5), -2);
    });
    edge("21: -2: KIND 0 to 4", () -> {
      for (int k : new int[] {-1, 5, FAR, DEEP}) due("with(0, " + k + ", 5, 5)", four().with(0, k, 5, 5), -2);
    });
    edge("21: -2: QUANTITY 1 to 9999", () -> {
      OpenCross x = four();
      for (int q : new int[] {0, 10000, -1, FAR, DEEP}) for (int k = MARKET; k <= EVEN; k++) due("with(0, " + k + ", " + q + ", 5)", x.with(0, k, q, 5), -2);
      due("with(0, 1, 1, 5)", x.with(0, LIMIT, 1, 5), 100);
      due("with(0, 1, 9999, 5)", x.with(0, LIMIT, 9999, 5), 100);
      due("with(0, 3, 1, 5)", x.with(0, ICE, 1, 5), 100);
    });
    edge("21: -2: PRICE 1 to 999", () -> {
      OpenCross x = four();
      for (int p : new int[] {0, 1000, -1, FAR, DEEP}) for (int k = LIMIT; k <= EVEN; k++) due("with(0, " + k + ", 5, " + p + ")", x.with(0, k, 5, p), -2);
      due("with(0, 1, 5, 1)", x.with(0, LIMIT, 5, 1), 100);
      due("with(0, 1, 999, 999)", x.with(0, LIMIT, 999, 999), 999);
    });
    edge("21: as told(): price whatever of a MARKET one", () -> {
      OpenCross x = four();
      for (int p : new int[] {0, 1000, -1, 500, FAR, DEEP}) due("with(1, 0, 200, " + p + ")", x.with(1, MARKET, 200, p), 99);
    });
    edge("21: -2: CROSSED", () -> {
      OpenCross x = four();
      x.cross();
      due("with", x.with(0, LIMIT, 5, 5), -2);
      x.open();
      due("with, open", x.with(1, LIMIT, 5, 90), 100);
    });
    edge("21: FROZEN or not", () -> {
      OpenCross x = four();
      x.freeze();
      due("told", buy(x, MARKET, 9999, 0), -1);
      due("with", x.with(0, MARKET, 9999, 0), 999);
    });
    edge("21: though there be 40", () -> {
      OpenCross x = forty();
      due("with", x.with(1, LIMIT, 1, 30), 40);
      due("told", sell(x, LIMIT, 1, 30), -1);
      due("with, the 40 gone on", x.with(0, LIMIT, 1, 30), -1);
      due("count(0)", x.count(0), 40);
      due("order(40, 0)", x.order(40, 0), -1);
    });
    edge("21: THE PRICE (NONE)", () -> {
      due("with of none", new OpenCross().with(0, LIMIT, 5, 5), -1);
      due("with of none", new OpenCross().with(1, EVEN, 5, 5), -1);
    });
    edge("21: an ICE that SHOWS all", () -> {
      OpenCross x = new OpenCross();
      sell(x, LIMIT, 10, 95);
      x.told(0, HIDDEN, 10, 100, 0, 10, 0);
      x.reference(97);
      due("with an ice: it is ahead of the hidden one", x.with(0, ICE, 10, 100), 100);
      due("with a hidden one", x.with(0, HIDDEN, 10, 100), 100);
      x.told(0, ICE, 10, 100, 1, 0, 0);
      due("crossed(0): one that shows one leaves the hidden one out", x.crossed(0), 97);
    });
    edge("21: LEAST 0", () -> {
      OpenCross x = new OpenCross();
      sell(x, LIMIT, 1, 100);
      for (int k = MARKET; k <= EVEN; k++) due("with(0, " + k + ", 9, 100)", x.with(0, k, 9, 100), k == MARKET ? 999 : 100);
    });
    edge("21: it comes behind all others of its PRICE", () -> {
      OpenCross x = new OpenCross();
      wants(x, 0, 10, 100, 10);
      sell(x, LIMIT, 10, 95);
      x.reference(97);
      due("crossed(0)", x.crossed(0), 97);
      due("with: the first has its least", x.with(0, LIMIT, 1, 100), 100);
      due("with one ahead: the first is out", x.with(0, LIMIT, 1, 101), 95);
    });
  }

  private static void moves() {
    edge("22: NONE: another SIDE", () -> {
      for (int s : new int[] {-1, 2, FAR, DEEP}) for (int w = 0; w < 2; w++) due("moves(" + s + ", " + w + ")", four().moves(s, w), -1);
    });
    edge("22: NONE: another what", () -> {
      for (int w : new int[] {-1, 2, FAR, DEEP}) for (int s = 0; s < 2; s++) due("moves(" + s + ", " + w + ")", four().moves(s, w), -1);
    });
    edge("22: NONE: CROSSED", () -> {
      OpenCross x = four();
      due("moves(1, 0)", x.moves(1, 0), 151);
      x.cross();
      for (int s = 0; s < 2; s++) for (int w = 0; w < 2; w++) due("moves(" + s + ", " + w + ")", x.moves(s, w), -1);
    });
    edge("22: NONE: by none", () -> {
      OpenCross x = new OpenCross();
      for (int s = 0; s < 2; s++) for (int w = 0; w < 2; w++) due("moves(" + s + ", " + w + ")", x.moves(s, w), -1);
    });
    edge("22: the least QUANTITY, from 1", () -> {
      OpenCross x = new OpenCross();
      buy(x, LIMIT, 5, 100);
      sell(x, LIMIT, 5, 90);
      due("moves(1, 0)", x.moves(1, 0), 1);
      due("moves(1, 1)", x.moves(1, 1), 90);
      x.reference(95);
      due("moves(0, 0)", x.moves(0, 0), 1);
      due("moves(0, 1)", x.moves(0, 1), 100);
    });
    edge("22: to 200", () -> {
      OpenCross x = new OpenCross();
      buy(x, LIMIT, 300, 100);
      sell(x, LIMIT, 101, 90);
      due("crossed(2)", x.crossed(2), 199);
      due("moves(1, 0)", x.moves(1, 0), 200);
      due("moves(1, 1)", x.moves(1, 1), 90);
    });
    edge("22: NONE: 201 would be needed", () -> {
      OpenCross x = new OpenCross();
      buy(x, LIMIT, 301, 100);
      sell(x, LIMIT, 101, 90);
      due("crossed(2)", x.crossed(2), 200);
      due("moves(1, 0)", x.moves(1, 0), -1);
      due("moves(1, 1)", x.moves(1, 1), -1);
      due("with 201", x.with(1, MARKET, 201, 0), 90);
    });
    edge("22: which it would be: 1 (NONE: none)", () -> {
      OpenCross x = new OpenCross();
      wants(x, 0, 10, 100, 10);
      wants(x, 1, 10, 100, 10);
      due("moves(1, 0)", x.moves(1, 0), 1);
      due("moves(1, 1)", x.moves(1, 1), -1);
    });
    edge("22: THE PRICE would be another one: some where there is none", () -> {
      OpenCross x = new OpenCross();
      buy(x, LIMIT, 10, 70);
      due("moves(1, 0)", x.moves(1, 0), 1);
      due("moves(1, 1)", x.moves(1, 1), 70);
      due("moves(0, 0)", x.moves(0, 0), -1);
    });
    edge("22: one more ORDER, FROZEN, and though there be 40", () -> {
      OpenCross x = forty();
      x.freeze();
      due("moves(1, 0)", x.moves(1, 0), 1);
      due("moves(1, 1)", x.moves(1, 1), 40);
      due("count(0)", x.count(0), 40);
    });
  }

  private static void swings() {
    edge("23: 0 if CROSSED", () -> {
      OpenCross x = four();
      due("swings()", x.swings(), 0b0110);
      x.cross();
      due("swings()", x.swings(), 0);
    });
    edge("23: FROZEN as well as GATHERING", () -> {
      OpenCross x = four();
      x.freeze();
      due("swings()", x.swings(), 0b0110);
    });
    edge("23: without ORDERS 0", () -> due("swings()", new OpenCross().swings(), 0));
    edge("23: (or none)", () -> {
      OpenCross x = two();
      due("swings()", x.swings(), 0b11);
    });
    edge("23: GONE ones have no bit", () -> {
      OpenCross x = two();
      x.gone(0);
      due("swings()", x.swings(), 0);
      buy(x, LIMIT, 5, 70);
      due("swings()", x.swings(), 0b110);
    });
    edge("23: as bits: from the lowest to the 40th", () -> {
      OpenCross x = new OpenCross();
      buy(x, LIMIT, 1, 40);
      for (int k = 1; k < 40; k++) sell(x, LIMIT, 1, 40);
      due("swings(): the first", x.swings(), 1L);
      for (int last : new int[] {31, 32, 39}) {
        OpenCross y = new OpenCross();
        for (int k = 0; k < last; k++) buy(y, LIMIT, 1, 40);
        sell(y, LIMIT, 1, 40);
        due("swings(): bit " + last, y.swings(), 1L << last);
      }
    });
    edge("23: without which it would be another one: some where there is none", () -> {
      OpenCross x = new OpenCross();
      wants(x, 0, 5, 100, 5);
      wants(x, 1, 5, 100, 5);
      buy(x, LIMIT, 1, 101);
      result(x, -1, 0, 0, 0, 3, 2, 0);
      due("without(2)", x.without(2), 100);
      due("swings()", x.swings(), 0b100);
    });
  }

  private static void level() {
    edge("24: NONE: another SIDE", () -> {
      for (int s : new int[] {-1, 2, FAR, DEEP}) for (int i = -1; i < 1; i++) due("level(" + s + ", " + i + ", 0)", four().level(s, i, 0), -1);
    });
    edge("24: NONE: another what", () -> {
      for (int w : new int[] {-1, 4, FAR, DEEP}) for (int i = -1; i < 1; i++) due("level(0, " + i + ", " + w + ")", four().level(0, i, w), -1);
    });
    edge("24: NONE: none such", () -> {
      OpenCross x = four();
      for (int i : new int[] {2, 3, 4, 39, 40, 41, -2, FAR, DEEP}) {
        for (int w = 0; w < 4; w++) {
          due("level(0, " + i + ", " + w + ")", x.level(0, i, w), -1);
          due("level(1, " + i + ", " + w + ")", x.level(1, i, w), -1);
        }
      }
      due("level(0, 0, 1) of none", new OpenCross().level(0, 0, 1), -1);
    });
    edge("24: i NONE: how many LEVELS, for every what: none, some", () -> {
      for (int w = 0; w < 4; w++) {
        due("level(0, -1, " + w + ")", four().level(0, -1, w), 2);
        due("level(1, -1, " + w + ") of none", new OpenCross().level(1, -1, w), 0);
      }
    });
    edge("24: the best first: 999 and 1 of those that BUY", () -> {
      OpenCross x = new OpenCross();
      buy(x, LIMIT, 1, 1);
      buy(x, LIMIT, 2, 999);
      levels(x, 0, 999, 2, 2, 1, 1, 1, 1, 1);
      levels(x, 1);
    });
    edge("24: the best first: 1 and 999 of those that SELL", () -> {
      OpenCross x = new OpenCross();
      sell(x, LIMIT, 1, 999);
      sell(x, LIMIT, 2, 1);
      levels(x, 1, 1, 2, 2, 1, 999, 1, 1, 1);
      levels(x, 0);
    });
    edge("24: not GONE", () -> {
      OpenCross x = four();
      x.gone(0);
      levels(x, 0, 100, 200, 200, 1);
      x.gone(1);
      levels(x, 0);
    });
    edge("24: MARKET ones aside", () -> {
      OpenCross x = new OpenCross();
      buy(x, MARKET, 5, 7);
      sell(x, MARKET, 5, 7);
      levels(x, 0);
      levels(x, 1);
    });
    edge("24: QUANTITY that is SHOWN (EVEN ones, too)", () -> {
      OpenCross x = new OpenCross();
      sell(x, EVEN, 4, 100);
      levels(x, 1, 100, 4, 4, 1);
      x.told(1, ICE, 9, 100, 2, 0, 0);
      levels(x, 1, 100, 6, 13, 2);
      sell(x, HIDDEN, 8, 100);
      levels(x, 1, 100, 6, 21, 3);
      sell(x, LIMIT, 1, 100);
      levels(x, 1, 100, 7, 22, 4);
    });
    edge("24: HIDDEN ones alone: a LEVEL that shows 0", () -> {
      OpenCross x = new OpenCross();
      sell(x, HIDDEN, 8, 100);
      levels(x, 1, 100, 0, 8, 1);
    });
    edge("24: forty LEVELS, and forty ORDERS at one", () -> {
      OpenCross x = new OpenCross();
      for (int k = 0; k < 40; k++) buy(x, LIMIT, 1 + k, 960 + k);
      due("level(0, -1, 0)", x.level(0, -1, 0), 40);
      due("level(0, 0, 0)", x.level(0, 0, 0), 999);
      due("level(0, 39, 2)", x.level(0, 39, 2), 1);
      due("level(0, 40, 0)", x.level(0, 40, 0), -1);
      levels(forty(), 0, 40, 40, 40, 40);
    });
    edge("24: as they are now, CROSSED, too", () -> {
      OpenCross x = four();
      x.cross();
      levels(x, 0, 100, 150, 150, 1);
      levels(x, 1, 101, 100, 100, 1);
    });
  }

  private static void levels(OpenCross x, int side, int... due) {
    due("level(" + side + ", -1, 0)", x.level(side, -1, 0), due.length / 4);
    for (int k = 0; k < due.length; k++) due("level(" + side + ", " + k / 4 + ", " + k % 4 + ")", x.level(side, k / 4, k % 4), due[k]);
  }

  private static void owner() {
    edge("26: NONE: another OWNER", () -> {
      for (int o : new int[] {-1, 8, FAR, DEEP}) for (int w = 0; w < 4; w++) due("owner(" + o + ", " + w + ")", four().owner(o, w), -1);
    });
    edge("26: NONE: another what", () -> {
      for (int w : new int[] {-1, 4, FAR, DEEP}) due("owner(1, " + w + ")", four().owner(1, w), -1);
    });
    edge("26: the first and the last OWNER", () -> {
      OpenCross x = new OpenCross();
      x.told(0, LIMIT, 5, 100, 0, 0, 0);
      x.told(1, LIMIT, 7, 100, 0, 0, 7);
      owners(x, 0, 5, 0, 0, 1);
      owners(x, 7, 0, 5, 0, 1);
      owners(x, 1, 0, 0, 0, 0);
    });
    edge("26: without a PRICE 0; ORDERS that aren't GONE all the same", () -> {
      OpenCross x = four();
      x.collar(1, 1);
      owners(x, 1, 0, 0, 0, 2);
      owners(new OpenCross(), 0, 0, 0, 0, 0);
    });
    edge("26: how many by TRADES with oneself, not how many TRADES", () -> {
      OpenCross x = new OpenCross();
      x.told(0, ICE, 9, 100, 2, 0, 3);
      x.told(1, LIMIT, 4, 100, 0, 0, 3);
      x.told(1, LIMIT, 5, 100, 0, 0, 2);
      due("trade(-1, 0)", x.trade(-1, 0), 3);
      owners(x, 3, 9, 4, 4, 2);
      owners(x, 2, 0, 5, 0, 1);
    });
    edge("26: by TRADES with oneself that there are, none that there were", () -> {
      OpenCross x = new OpenCross();
      x.told(0, LIMIT, 5, 100, 0, 0, 3);
      x.told(1, LIMIT, 5, 100, 0, 0, 3);
      due("owner(3, 2)", x.owner(3, 2), 5);
      x.gone(1);
      due("owner(3, 2)", x.owner(3, 2), 0);
    });
    edge("26: one that is OUT has none", () -> {
      OpenCross x = two();
      x.told(0, LIMIT, 9, 101, 0, 9, 4);
      owners(x, 4, 0, 0, 0, 1);
    });
    edge("26: (CROSSED: as it was), but ORDERS that aren't GONE now", () -> {
      OpenCross x = four();
      owners(x, 3, 0, 150, 0, 1);
      x.cross();
      owners(x, 3, 0, 150, 0, 0);
      owners(x, 1, 100, 0, 0, 1);
      x.open();
      owners(x, 1, 0, 0, 0, 1);
    });
  }

  private static void owners(OpenCross x, int owner, int... due) {
    for (int w = 0; w < due.length; w++) due("owner(" + owner + ", " + w + ")", x.owner(owner, w), due[w]);
  }

  private static void gainAndLeft() {
    edge("27: 0 without a PRICE", () -> {
      due("gain() of nothing", new OpenCross().gain(), 0);
      OpenCross x = four();
      x.collar(103, 999);
      due("gain()", x.gain(), 0);
    });
    edge("27: each ORDER but MARKET", () -> {
      OpenCross x = two();
      due("gain(): the price is that of the one that buys", x.gain(), 0);
      x.collar(60, 60);
      due("gain()", x.gain(), 5 * 40);
    });
    edge("27: PRICE as its own: no better", () -> {
      OpenCross x = new OpenCross();
      buy(x, LIMIT, 5, 100);
      sell(x, LIMIT, 5, 100);
      due("gain()", x.gain(), 0);
    });
    edge("27: of both SIDES, EVEN, HIDDEN, ICE ones, too", () -> {
      OpenCross x = new OpenCross();
      buy(x, HIDDEN, 4, 110);
      x.told(0, ICE, 6, 105, 1, 0, 0);
      sell(x, EVEN, 3, 90);
      sell(x, LIMIT, 7, 95);
      due("crossed(0)", x.crossed(0), 100);
      due("gain()", x.gain(), 4 * 10 + 6 * 5 + 3 * 10 + 7 * 5);
    });
    edge("27: its FILL, not its QUANTITY; none of those that are OUT", () -> {
      OpenCross x = new OpenCross();
      buy(x, LIMIT, 9, 110);
      sell(x, LIMIT, 4, 100);
      wants(x, 0, 9, 120, 9);
      x.collar(100, 100);
      due("fill(2)", x.fill(2), -2);
      due("gain()", x.gain(), 4 * 10);
    });
    edge("27: (CROSSED: as it was)", () -> {
      OpenCross x = four();
      x.cross();
      due("gain()", x.gain(), 350);
      x.open();
      due("gain(), open", x.gain(), 0);
    });
    edge("27: the most", () -> {
      OpenCross x = new OpenCross();
      for (int k = 0; k < 20; k++) {
        buy(x, LIMIT, 9999, 999);
        sell(x, LIMIT, 9999, 1);
      }
      due("gain()", x.gain(), 20L * 9999 * 998);
    });
    edge("28: 0 without ORDERS, without a PRICE", () -> {
      due("left() of nothing", new OpenCross().left(), 0);
      OpenCross x = new OpenCross();
      buy(x, LIMIT, 5, 99);
      sell(x, LIMIT, 5, 100);
      due("left()", x.left(), 0);
    });
    edge("28: of LIMIT, HIDDEN, ICE ORDERS: MARKET ones left out", () -> {
      OpenCross x = new OpenCross();
      buy(x, MARKET, 9, 0);
      sell(x, LIMIT, 5, 100);
      sell(x, LIMIT, 5, 200);
      x.collar(100, 150);
      due("crossed(2)", x.crossed(2), 4);
      due("left()", x.left(), 0);
    });
    edge("28: EVEN ones left out", () -> {
      OpenCross x = new OpenCross();
      buy(x, LIMIT, 5, 100);
      sell(x, LIMIT, 5, 100);
      buy(x, LIMIT, 3, 90);
      sell(x, EVEN, 5, 80);
      due("fill(3)", x.fill(3), 0);
      due("left()", x.left(), 0);
    });
    edge("28: those that are OUT left out, GATHERING and CROSSED", () -> {
      OpenCross x = two();
      sell(x, LIMIT, 6, 100);
      x.gone(1);
      wants(x, 1, 9, 100, 9);
      due("crossed(5)", x.crossed(5), 1);
      due("left()", x.left(), 0);
      x.cross();
      due("curve(100, 4): with it there would be some", x.curve(100, 4), 4);
      due("left(), crossed", x.left(), 0);
    });
    edge("28: what FILLS leave, not what was", () -> {
      OpenCross x = four();
      due("left()", x.left(), 0);
      x.cross();
      due("left(), crossed", x.left(), 0);
    });
    edge("28: GONE ones left out", () -> {
      OpenCross x = four();
      x.gone(0);
      x.gone(1);
      due("left()", x.left(), 0);
    });
  }

  private static final Question[] QUESTIONS = {
    x -> x.order(2, 2), x -> x.curve(100, 5), x -> x.crossed(0), x -> x.crossed(5), x -> x.fill(1), x -> x.fill(4), x -> x.slice(0, 100, 1, 1),
    x -> x.trade(1, 2), x -> x.trade(-1, 0), x -> x.notice(1), x -> x.without(2), x -> x.without(0), x -> x.with(1, MARKET, 200, 0),
    x -> x.with(0, ICE, 900, 101), x -> x.moves(0, 1), x -> x.moves(1, 0), x -> x.swings(), x -> x.level(1, 1, 2), x -> x.owner(1, 0),
    x -> x.owner(1, 2), x -> x.owner(4, 3), x -> x.gain(), x -> x.left(), x -> x.count(7),
  };

  interface Question { long of(OpenCross x); }

  private static OpenCross six(int phase) {
    OpenCross x = four();
    x.told(1, ICE, 60, 98, 20, 0, 1);
    x.told(0, HIDDEN, 90, 101, 0, 80, 4);
    if (phase == FROZEN) x.freeze();
    if (phase == CROSSED) x.cross();
    return x;
  }

  private static void afterOneAnother() {
    edge("13 to 29: no answer goes by what was asked before it", () -> {
      for (int phase = GATHERING; phase <= CROSSED; phase++) {
        for (int b = 0; b < QUESTIONS.length; b++) {
          long alone = QUESTIONS[b].of(six(phase));
          for (int a = 0; a < QUESTIONS.length; a++) {
            OpenCross x = six(phase);
            QUESTIONS[a].of(x);
            due("phase " + phase + ", question " + b + " behind " + a, QUESTIONS[b].of(x), alone);
          }
        }
      }
    });
    edge("13 to 29: of forty ORDERS, in every PHASE", () -> {
      for (int phase = GATHERING; phase <= CROSSED; phase++) {
        OpenCross x = new OpenCross();
        for (int k = 0; k < 40; k++) x.told(k % 2, ICE, 5, 52 - 2 * (k % 2), 2, 0, k % 8);
        if (phase == FROZEN) x.freeze();
        if (phase == CROSSED) x.cross();
        due("owner(7, 1)", x.owner(7, 1), 5 * 5);
        due("owner(6, 0)", x.owner(6, 0), 5 * 5);
        due("gain()", x.gain(), 100 * 2);
        due("left()", x.left(), 0);
        due("fill(39)", x.fill(39), 5);
        due("crossed(1)", x.crossed(1), 100);
        due("swings(): each that buys", x.swings(), phase == CROSSED ? 0 : 0x5555555555L);
      }
    });
  }

  private static void count() {
    edge("29: NONE for another what", () -> {
      OpenCross x = four();
      for (int w : new int[] {-1, 11, FAR, DEEP}) due("count(" + w + ")", x.count(w), -1);
    });
    edge("29: ORDERS, those that aren't GONE", () -> {
      OpenCross x = forty();
      due("count(0)", x.count(0), 40);
      due("count(5)", x.count(5), 40);
      x.gone(39);
      due("count(0)", x.count(0), 40);
      due("count(5)", x.count(5), 39);
    });
    edge("29: PHASE", () -> {
      OpenCross x = new OpenCross();
      due("count(1)", x.count(1), GATHERING);
      x.freeze();
      due("count(1)", x.count(1), FROZEN);
      x.cross();
      due("count(1)", x.count(1), CROSSED);
    });
    edge("29: 6: the highest PRICE of those that BUY and aren't GONE (0 without)", () -> {
      OpenCross x = new OpenCross();
      sell(x, LIMIT, 1, 500);
      due("count(6)", x.count(6), 0);
      buy(x, LIMIT, 1, 1);
      due("count(6)", x.count(6), 1);
      buy(x, HIDDEN, 1, 999);
      buy(x, EVEN, 1, 998);
      due("count(6)", x.count(6), 999);
      x.gone(2);
      due("count(6)", x.count(6), 998);
      x.gone(3);
      x.gone(1);
      due("count(6)", x.count(6), 0);
    });
    edge("29: 7: the lowest of those that SELL (1000)", () -> {
      OpenCross x = new OpenCross();
      buy(x, LIMIT, 1, 500);
      due("count(7)", x.count(7), 1000);
      sell(x, LIMIT, 1, 999);
      due("count(7)", x.count(7), 999);
      sell(x, HIDDEN, 1, 1);
      sell(x, EVEN, 1, 2);
      due("count(7)", x.count(7), 1);
      x.gone(2);
      due("count(7)", x.count(7), 2);
      x.gone(3);
      x.gone(1);
      due("count(7)", x.count(7), 1000);
    });
    edge("29: 6, 7: a MARKET one has no PRICE", () -> {
      OpenCross x = new OpenCross();
      buy(x, MARKET, 1, 0);
      sell(x, MARKET, 1, 0);
      due("count(6)", x.count(6), 0);
      due("count(7)", x.count(7), 1000);
    });
    edge("29: 8: ACTS that can be taken BACK: none, twelve", () -> {
      OpenCross x = new OpenCross();
      due("count(8)", x.count(8), 0);
      for (int k = 1; k <= 12; k++) x.reference(k);
      due("count(8)", x.count(8), 12);
      x.reference(13);
      due("count(8)", x.count(8), 12);
      x.back();
      due("count(8)", x.count(8), 11);
    });
    edge("29: 10: how often it was CROSSED: more than are kept", () -> {
      OpenCross x = new OpenCross();
      for (int k = 1; k <= 9; k++) {
        x.cross();
        due("count(10)", x.count(10), k);
        x.back();
        due("count(10): what is taken back counts, too", x.count(10), k);
      }
    });
  }

  public static void main(String[] args) {
    order();
    curves();
    crossed();
    fill();
    slice();
    trade();
    notice();
    without();
    with();
    moves();
    swings();
    level();
    owner();
    gainAndLeft();
    count();
    afterOneAnother();
    end();
  }
}
