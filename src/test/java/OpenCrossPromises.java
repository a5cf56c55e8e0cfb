/** Each promise of the document by hand: ordinary inputs, the edges that it names, and wrong inputs. */
public final class OpenCrossPromises extends Checks {
  private static void p1() {
    promise = "1 a new object";
    OpenCross x = new OpenCross();
    int[] counts = {0, 0, 100, 1, 999, 0, 0, 1000, 0, 0, 0, -1};
    for (int w = 0; w < counts.length; w++) due("count(" + w + ")", x.count(w), counts[w]);
    result(x, -1, 0, 0, 0, 1, 0, 0);
    due("order(0, 0)", x.order(0, 0), -1);
    due("NONE", OpenCross.NONE, -1);
  }

  private static void p2() {
    promise = "2 feed";
    OpenCross x = new OpenCross();
    for (int k = 1; k <= 40; k++) due("feed", x.feed(0, -1, FAR, DEEP, 7), 20 * k);
    due("feed of byte 801", x.feed(0, 0, 0, 0, 0), -1);
    due("count(9)", x.count(9), 800);
    x = new OpenCross();
    due("feed", x.feed(0x62757920, 0x6d61726b, 0x65742031, 0x32202020, 0x3b3b3b3b), 20);
    due("text(14)", x.text(14), 1);
    row(x, 0, 0, MARKET, 12, 0, 0, 0, 0, 0);
  }

  private static void p3() {
    promise = "3 text";
    OpenCross x = new OpenCross();
    due("text", read(x, "collar 90 120;reference 95; buy limit 30 at 99 least 4 by 7;sell ice 20 at 98 shows 5\n; sell market 9999 by 1;"
        + "buy hidden 1 at 999;buy even 3 at 1 least 3"), 5);
    due("count(2)", x.count(2), 95);
    due("count(3)", x.count(3), 90);
    due("count(4)", x.count(4), 120);
    row(x, 0, 0, LIMIT, 30, 99, 0, 4, 7, 0);
    row(x, 1, 1, ICE, 20, 98, 5, 0, 0, 0);
    row(x, 2, 1, MARKET, 9999, 0, 0, 0, 1, 0);
    row(x, 3, 0, HIDDEN, 1, 999, 0, 0, 0, 0);
    row(x, 4, 0, EVEN, 3, 1, 0, 3, 0, 0);
    due("count(9): the tape is empty", x.count(9), 0);
    textBounds();
    textForms();
    textTerms();
    textState();
  }

  private static void textBounds() {
    fine("reference 1", 0);
    fine("buy ice 5 at 1 shows 1 by 0", 1);
    fault("reference 0", 10, 2);
    fault("reference 1000", 10, 2);
    fine("reference 999", 0);
    fault("collar 0 5", 7, 2);
    fault("collar 5 1000", 9, 2);
    fault("collar 6 5", 9, 2);
    fine("collar 5 5", 0);
    fault("buy market 0", 11, 2);
    fine("buy market 9999", 1);
    fault("buy limit 1 at 0", 15, 2);
    fault("buy limit 1 at 1000", 15, 2);
    fault("buy ice 5 at 9 shows 0", 21, 2);
    fault("buy ice 5 at 9 shows 6", 21, 2);
    fine("buy ice 5 at 9 shows 5", 1);
    fault("buy market 5 least 6", 19, 2);
    fine("buy market 5 least 5", 1);
    fine("buy market 5 least 0", 1);
    fault("buy market 5 by 8", 16, 2);
    fine("buy market 0005 by 0007", 1);
    fault("buy market 0 at x", 11, 2);
  }

  private static void textForms() {
    fault("", 0, 1);
    fault("  \n ", 4, 1);
    fault(";", 0, 1);
    fault("buy market 5;", 13, 1);
    fault("buy market 5;;buy market 5", 13, 1);
    fault("Buy market 5", 0, 1);
    fault("buys market 5", 0, 1);
    fault("buyz market 5", 0, 1);
    fault("guy market 5", 0, 1);
    fault("buy", 3, 1);
    fault("buy  ", 5, 1);
    fault("buy 5", 4, 1);
    fault("buy at 5", 4, 1);
    fault("buymarket 5", 0, 1);
    fault("buy market five", 11, 1);
    fault("buy market 12345", 11, 1);
    fault("buy market 5 5", 13, 1);
    fault("buy market 5 at 9", 13, 1);
    fault("buy limit 5 least 2", 12, 1);
    fault("buy limit 5 at 9 shows 2", 17, 1);
    fault("buy ice 5 at 9", 14, 1);
    fault("buy ice 5 at 9 by 1", 15, 1);
    fault("buy market 5 by 1 least 1", 18, 1);
    fault("buy market 5 by 1 by 1", 18, 1);
    fault("buy market 5 least 1 least 1", 21, 1);
    fault("referencee 5", 0, 1);
    fault("reference", 9, 1);
    fault("collar 5", 8, 1);
    fault("collar 5;", 8, 1);
    fault("reference 5 5", 12, 1);
    fault("buy\tmarket 5", 3, 1);
    fault("buy market 5\u00e9", 12, 1);
    fault("buy market 5\u0000", 12, 1);
    fault("buy market 5.", 12, 1);
    fault("buy market 5?;buy market 0", 12, 1);
    fine("buy market5;sell limit5at9least2by1", 2);
    fine("\n\nsell\neven  7 at 9\n;\nbuy market 5  ", 2);
  }

  private static void textTerms() {
    fault("reference 5;reference 5", 12, 3);
    fault("collar 1 5;reference 5;collar 1 5", 23, 3);
    fault("buy market 5;collar", 13, 3);
    fault("buy market 5; reference 0", 14, 3);
    fine("reference 5;collar 1 5", 0);
    StringBuilder forty = new StringBuilder("buy market 1");
    for (int k = 1; k < 40; k++) forty.append(";buy market 1");
    fine(forty.toString(), 40);
    fault(forty + "; sell", 521, 4);
    fault(forty + ";sold", 520, 1);
    fault(forty + ";reference", 520, 3);
  }

  private static void textState() {
    OpenCross x = four();
    x.reference(50);
    x.cross();
    feedAll(x, "buy market 5 least 6 and more");
    due("text(-1)", x.text(-1), -1);
    due("text(41)", x.text(41), -1);
    due("text(" + DEEP + ")", x.text(DEEP), -1);
    due("count(9): the tape stays", x.count(9), 40);
    due("text(20)", x.text(20), -2 - (8 * 19 + 2));
    due("count(9): empty behind a fault", x.count(9), 0);
    int[] stays = {4, 2, 50, 1, 999, 2, 100, 101, 6, 0, 1};
    for (int w = 0; w < stays.length; w++) due("count(" + w + ")", x.count(w), stays[w]);
    due("text(0)", x.text(0), -3);
    due("text: all is anew", read(x, "collar 7 8"), 0);
    int[] anew = {0, 0, 100, 7, 8, 0, 0, 1000, 0, 0, 0};
    for (int w = 0; w < anew.length; w++) due("count(" + w + ")", x.count(w), anew[w]);
    due("past(0, 0) behind text", get(() -> x.past(0, 0)), THROWS);
    due("back() behind text", x.back(), false);
    read(x, "reference 7");
    due("count(3): collar as at first", x.count(3), 1);
    due("count(2)", x.count(2), 7);
  }

  private static void p4() {
    promise = "4 told";
    OpenCross x = new OpenCross();
    due("told", x.told(0, MARKET, 1, -5, 77, 1, 7), 0);
    row(x, 0, 0, MARKET, 1, 0, 0, 1, 7, 0);
    due("told", x.told(1, ICE, 9999, 999, 9999, 0, 0), 1);
    row(x, 1, 1, ICE, 9999, 999, 9999, 0, 0, 0);
    due("told", x.told(1, HIDDEN, 5, 1, -9, 5, 2), 2);
    row(x, 2, 1, HIDDEN, 5, 1, 0, 5, 2, 0);
    due("told of an ice that shows one", x.told(1, ICE, 5, 1, 1, 5, 2), 3);
    x.back();
    int[][] bad = {{2, 1, 5, 5, 0, 0, 0}, {-1, 1, 5, 5, 0, 0, 0}, {0, 5, 5, 5, 1, 0, 0}, {0, -1, 5, 5, 0, 0, 0}, {0, 1, 0, 5, 0, 0, 0},
        {0, 1, 10000, 5, 0, 0, 0}, {0, 1, 5, 0, 0, 0, 0}, {0, 1, 5, 1000, 0, 0, 0}, {0, 4, 5, 0, 0, 0, 0}, {0, 3, 5, 5, 0, 0, 0},
        {0, 3, 5, 5, 6, 0, 0}, {0, 1, 5, 5, 0, 6, 0}, {0, 1, 5, 5, 0, -1, 0}, {0, 1, 5, 5, 0, 0, 8}, {0, 1, 5, 5, 0, 0, -1}};
    for (int[] b : bad) due("told of others", x.told(b[0], b[1], b[2], b[3], b[4], b[5], b[6]), -1);
    due("count(8): what is refused is no act", x.count(8), 3);
    x.gone(0);
    for (int k = 3; k < 40; k++) due("told", buy(x, LIMIT, 1, 1), k);
    due("told of a 41st, one being gone", buy(x, LIMIT, 1, 1), -1);
    x = four();
    x.cross();
    due("told, crossed", buy(x, LIMIT, 1, 1), -1);
    frozenTold();
  }

  private static void frozenTold() {
    OpenCross x = four();
    x.freeze();
    due("told that makes it worse", buy(x, MARKET, 1, 0), -1);
    due("told that leaves it", buy(x, LIMIT, 50, 98), 4);
    due("told that makes it better", sell(x, MARKET, 50, 0), 5);
    due("told that makes it even", sell(x, EVEN, 500, 100), 6);
    result(x, 100, 300, 0);
    due("told with rest 0", buy(x, MARKET, 1, 0), 7);
    x = new OpenCross();
    x.freeze();
    due("told without a price", buy(x, LIMIT, 9, 9), 0);
    due("told that gives a price and rest", sell(x, LIMIT, 5, 9), -1);
    due("told that gives a price and none", sell(x, LIMIT, 9, 9), 1);
  }

  private static void p5() {
    promise = "5 gone";
    OpenCross x = four();
    due("gone(1)", x.gone(1), 200);
    row(x, 1, 0, LIMIT, 200, 100, 0, 0, 2, 1);
    due("gone(1) again", x.gone(1), -1);
    due("gone(-1)", x.gone(-1), -1);
    due("gone(4)", x.gone(4), -1);
    due("gone(far)", x.gone(FAR), -1);
    result(x, 99, 100, -50, 2, 1, 0, 4);
    x.freeze();
    due("gone(0), frozen: no price, no rest", x.gone(0), 100);
    x.back();
    due("gone(2), frozen: worse at none", x.gone(2), 150);
    x.back();
    due("gone(3), frozen: nothing else", x.gone(3), 100);
    x = four();
    x.told(1, MARKET, 50, 0, 0, 0, 0);
    x.freeze();
    due("gone(4), frozen: worse", x.gone(4), -1);
    due("order(4, 7)", x.order(4, 7), 0);
    x.cross();
    due("gone, crossed", x.gone(1), -1);
  }

  private static void p6() {
    promise = "6 less";
    OpenCross x = new OpenCross();
    x.told(0, ICE, 50, 9, 20, 30, 0);
    due("less(0, 50)", x.less(0, 50), -1);
    due("less(0, 51)", x.less(0, 51), -1);
    due("less(0, 0)", x.less(0, 0), -1);
    due("less(0, -1)", x.less(0, -1), -1);
    due("less(1, 1)", x.less(1, 1), -1);
    due("less(-1, 1)", x.less(-1, 1), -1);
    due("less(0, 25)", x.less(0, 25), 50);
    row(x, 0, 0, ICE, 25, 9, 20, 25, 0, 0);
    due("less(0, 1)", x.less(0, 1), 25);
    row(x, 0, 0, ICE, 1, 9, 1, 1, 0, 0);
    due("less(0, 1) again", x.less(0, 1), -1);
    x.told(1, LIMIT, 5, 100, 0, 0, 0);
    x.gone(1);
    due("less of a gone one", x.less(1, 2), -1);
    x = four();
    x.freeze();
    due("less that is worse", x.less(2, 149), -1);
    due("order(2, 2)", x.order(2, 2), 150);
    due("less that is better", x.less(1, 50), 200);
    result(x, 100, 150, 0);
    x.cross();
    due("less, crossed", x.less(3, 1), -1);
  }

  private static void p7() {
    promise = "7 freeze";
    OpenCross x = four();
    due("freeze()", x.freeze(), true);
    due("count(1)", x.count(1), 1);
    due("freeze() again", x.freeze(), false);
    x.cross();
    due("freeze(), crossed", x.freeze(), false);
    x.open();
    due("freeze(), open", x.freeze(), true);
  }

  private static void p8() {
    promise = "8 cross";
    OpenCross x = new OpenCross();
    due("cross() of nothing", x.cross(), 0);
    due("cross() again", x.cross(), -1);
    due("count(1)", x.count(1), 2);
    x = four();
    x.told(0, ICE, 500, 101, 80, 500, 4);
    x.told(1, MARKET, 30, 0, 0, 0, 0);
    x.told(0, EVEN, 10, 100, 0, 0, 0);
    x.told(1, ICE, 100, 99, 60, 55, 0);
    due("cross()", x.cross(), 280);
    row(x, 0, 0, LIMIT, 0, 102, 0, 0, 1, 1);
    row(x, 1, 0, LIMIT, 20, 100, 0, 0, 2, 0);
    row(x, 2, 1, LIMIT, 0, 99, 0, 0, 3, 1);
    row(x, 3, 1, LIMIT, 100, 101, 0, 0, 1, 0);
    row(x, 4, 0, ICE, 500, 101, 80, 500, 4, 0);
    row(x, 5, 1, MARKET, 0, 0, 0, 0, 0, 1);
    row(x, 6, 0, EVEN, 10, 100, 0, 0, 0, 1);
    row(x, 7, 1, ICE, 0, 99, 0, 0, 0, 1);
    x = new OpenCross();
    x.told(0, ICE, 100, 50, 60, 60, 0);
    x.told(1, MARKET, 70, 0, 0, 0, 0);
    due("cross()", x.cross(), 70);
    row(x, 0, 0, ICE, 30, 50, 30, 30, 0, 0);
    x = new OpenCross();
    x.told(0, MARKET, 100, 0, 0, 0, 0);
    x.told(1, LIMIT, 70, 9, 0, 0, 0);
    x.freeze();
    due("cross(), frozen", x.cross(), 70);
    row(x, 0, 0, MARKET, 30, 0, 0, 0, 0, 1);
  }

  private static void p9() {
    promise = "9 open";
    OpenCross x = four();
    due("open(), gathering", x.open(), -1);
    x.freeze();
    due("open(), frozen", x.open(), -1);
    x.cross();
    due("open()", x.open(), 2);
    due("count(0)", x.count(0), 2);
    due("count(1)", x.count(1), 0);
    row(x, 0, 0, LIMIT, 150, 100, 0, 0, 2, 0);
    row(x, 1, 1, LIMIT, 100, 101, 0, 0, 1, 0);
    due("open() again", x.open(), -1);
    x.reference(77);
    x.cross();
    due("open() without a price", x.open(), 2);
    due("count(2) stays", x.count(2), 77);
    x.told(1, MARKET, 10, 0, 0, 0, 0);
    x.cross();
    x.open();
    due("count(2) is the price", x.count(2), 100);
  }

  private static void p10() {
    promise = "10 reference";
    OpenCross x = new OpenCross();
    due("reference(1)", x.reference(1), 100);
    due("reference(999)", x.reference(999), 1);
    due("reference(0)", x.reference(0), -1);
    due("reference(1000)", x.reference(1000), -1);
    due("count(2)", x.count(2), 999);
    x.freeze();
    due("reference(5), frozen", x.reference(5), -1);
    x.cross();
    due("reference(5), crossed", x.reference(5), -1);
    x = new OpenCross();
    buy(x, LIMIT, 5, 60);
    sell(x, LIMIT, 5, 40);
    result(x, 60, 5, 0, 3, 1, 0, 21);
    x.reference(30);
    result(x, 40, 5, 0, 3);
    x.reference(47);
    result(x, 47, 5, 0, 3);
  }

  private static void p11() {
    promise = "11 collar";
    OpenCross x = four();
    int[][] bad = {{0, 5}, {5, 1000}, {6, 5}, {1000, 1001}, {-1, -1}};
    for (int[] b : bad) due("collar(" + b[0] + ", " + b[1] + ")", x.collar(b[0], b[1]), false);
    due("collar(1, 1)", x.collar(1, 1), true);
    due("collar(101, 102)", x.collar(101, 102), true);
    due("count(3)", x.count(3), 101);
    due("count(4)", x.count(4), 102);
    result(x, 101, 100, -150, 2, 1, 0, 2);
    due("collar(99, 99)", x.collar(99, 99), true);
    result(x, 99, 150, 150, 0, 1, 0, 1);
    due("collar(103, 999)", x.collar(103, 999), true);
    result(x, -1, 0, 0, 0, 1, 0, 0);
    due("curve outside of it", x.curve(100, 4), 150);
    x.freeze();
    due("collar, frozen", x.collar(1, 999), false);
    x.cross();
    due("collar, crossed", x.collar(1, 999), false);
  }

  private static void p12() {
    promise = "12 back";
    OpenCross x = new OpenCross();
    due("back() of nothing", x.back(), false);
    x = four();
    x.gone(1);
    x.less(2, 40);
    x.reference(55);
    x.collar(90, 110);
    x.freeze();
    x.cross();
    x.open();
    due("count(8)", x.count(8), 11);
    due("back() of open", x.back(), true);
    due("count(1)", x.count(1), 2);
    due("crossed(1) as it was", x.crossed(1), 100);
    due("fill(2) as it was", x.fill(2), 40);
    due("count(2)", x.count(2), 55);
    due("back() of cross", x.back(), true);
    due("count(1)", x.count(1), 1);
    due("order(2, 2)", x.order(2, 2), 40);
    due("order(2, 7)", x.order(2, 7), 0);
    due("back() of freeze", x.back(), true);
    due("count(1)", x.count(1), 0);
    due("back() of collar", x.back(), true);
    due("count(3)", x.count(3), 1);
    due("count(4)", x.count(4), 999);
    due("back() of reference", x.back(), true);
    due("count(2)", x.count(2), 100);
    due("back() of less", x.back(), true);
    due("order(2, 2)", x.order(2, 2), 150);
    due("back() of gone", x.back(), true);
    due("order(1, 7)", x.order(1, 7), 0);
    due("back() of told", x.back(), true);
    due("count(0)", x.count(0), 3);
    due("count(8)", x.count(8), 3);
    backLimits();
    backAndForth();
  }

  private static void backLimits() {
    OpenCross x = new OpenCross();
    for (int k = 1; k <= 14; k++) x.reference(k);
    due("count(8)", x.count(8), 12);
    for (int k = 1; k <= 12; k++) due("back()", x.back(), true);
    due("back() of a 13th", x.back(), false);
    due("count(2)", x.count(2), 2);
    x.feed(1, 2, 3, 4, 5);
    due("back() of feed", x.back(), false);
    x = four();
    x.cross();
    x.open();
    for (int k = 1; k <= 11; k++) x.reference(k);
    for (int k = 1; k <= 12; k++) x.back();
    due("count(1): crossed, though the crossing is no longer to be taken back", x.count(1), 2);
    due("back()", x.back(), false);
    result(x, 100, 150, 150, 2, 1, 0, 2);
    due("fill(1)", x.fill(1), 50);
    due("fill(3)", x.fill(3), 0);
    due("trade(1, 2)", x.trade(1, 2), 50);
    due("gain()", x.gain(), 350);
    due("open()", x.open(), 2);
  }

  /** Round all that is kept for going back, and on, so that what is used again shows nothing of before. */
  private static void backAndForth() {
    OpenCross x = new OpenCross();
    for (int k = 0; k < 14; k++) {
      due("told", x.told(0, ICE, 9, 9, 9, 9, 7), 0);
      row(x, 0, 0, ICE, 9, 9, 9, 9, 7, 0);
      x.gone(0);
      row(x, 0, 0, ICE, 9, 9, 9, 9, 7, 1);
      x.back();
      due("told", x.told(1, MARKET, 1, 0, 0, 0, 0), 1);
      row(x, 1, 1, MARKET, 1, 0, 0, 0, 0, 0);
      x.gone(1);
      x.back();
      x.back();
      x.back();
      due("count(0)", x.count(0), 0);
      x.reference(1 + k);
    }
  }

  private static void p13() {
    promise = "13 order";
    OpenCross x = new OpenCross();
    x.told(1, ICE, 50, 9, 20, 30, 6);
    row(x, 0, 1, ICE, 50, 9, 20, 30, 6, 0, -1);
    due("order(0, -1)", x.order(0, -1), -1);
    due("order(1, 0)", x.order(1, 0), -1);
    due("order(-1, 0)", x.order(-1, 0), -1);
    due("order(far, far)", x.order(FAR, FAR), -1);
    due("order(deep, deep)", x.order(DEEP, DEEP), -1);
  }

  private static void p14() {
    promise = "14 curve";
    OpenCross x = four();
    x.told(1, EVEN, 60, 100, 0, 0, 0);
    x.told(0, EVEN, 45, 101, 0, 0, 0);
    x.told(0, MARKET, 7, 0, 0, 0, 0);
    int[][] due = {{99, 307, 150, 157, 0, 150, 157}, {100, 307, 150, 157, 60, 210, 97}, {101, 107, 250, -143, 45, 152, -98},
        {102, 107, 250, -143, 0, 107, -143}, {103, 7, 250, -243, 0, 7, -243}, {1, 307, 0, 307, 0, 0, 307}, {999, 7, 250, -243, 0, 7, -243}};
    for (int[] d : due) for (int w = 0; w < 6; w++) due("curve(" + d[0] + ", " + w + ")", x.curve(d[0], w), d[w + 1]);
    x.told(1, EVEN, 900, 100, 0, 0, 0);
    due("curve(100, 3): no more than over", x.curve(100, 3), 157);
    due("curve(100, 5)", x.curve(100, 5), 0);
    x.gone(0);
    due("curve(100, 0) without a gone one", x.curve(100, 0), 207);
    buy(x, LIMIT, 43, 500);
    sell(x, LIMIT, 99, 500);
    sell(x, LIMIT, 1, 400);
    due("curve(500, 2)", x.curve(500, 2), -300);
    x.gone(8);
    x.gone(9);
    x.gone(10);
    OpenCross one = new OpenCross();
    buy(one, LIMIT, 2, 10);
    sell(one, LIMIT, 1, 10);
    sell(one, EVEN, 5, 10);
    due("curve(10, 4)", one.curve(10, 4), 2);
    due("curve(10, 5)", one.curve(10, 5), 0);
    x.told(0, LIMIT, 9, 100, 0, 9, 0);
    due("curve counts those that would be out", x.curve(100, 0), 216);
    int[][] bad = {{0, 0}, {1000, 0}, {5, -1}, {5, 6}, {FAR, 0}, {5, DEEP}};
    for (int[] b : bad) { due("curve(" + b[0] + ", " + b[1] + ")", get(() -> x.curve(b[0], b[1])), THROWS); }
    x.cross();
    due("curve, crossed: as orders are now", x.curve(999, 0), 0);
  }

  private static void p15() {
    promise = "15 crossed";
    OpenCross x = four();
    result(x, 100, 150, 150, 2, 1, 0, 2);
    int[] bad = {-1, 7, FAR, DEEP};
    for (int b : bad) due("crossed(" + b + ")", get(() -> x.crossed(b)), THROWS);
    sell(x, LIMIT, 150, 100);
    result(x, 100, 300, 0, 0, 1, 0, 1);
    x.cross();
    result(x, 100, 300, 0, 0, 1, 0, 1);
    keys();
    rounds();
  }

  private static void keys() {
    OpenCross x = new OpenCross();
    buy(x, LIMIT, 10, 105);
    sell(x, LIMIT, 10, 95);
    buy(x, LIMIT, 5, 95);
    sell(x, LIMIT, 3, 105);
    buy(x, LIMIT, 1, 97);
    result(x, 100, 10, 0, 3, 1, 0, 11);
    sell(x, LIMIT, 2, 98);
    result(x, 97, 10, 1, 2);
    x.gone(4);
    x.gone(5);
    x.gone(3);
    sell(x, LIMIT, 1, 96);
    result(x, 96, 10, -1, 2, 1, 0, 11);
    OpenCross y = new OpenCross();
    buy(y, LIMIT, 10, 100);
    sell(y, LIMIT, 8, 90);
    result(y, 100, 8, 2, 2, 1, 0, 11);
    y.told(1, LIMIT, 5, 100, 0, 0, 0);
    result(y, 100, 10, -3, 0, 1, 0, 1);
    OpenCross z = new OpenCross();
    buy(z, LIMIT, 10, 104);
    sell(z, LIMIT, 12, 96);
    result(z, 96, 10, -2, 2, 1, 0, 9);
    sell(z, LIMIT, 1, 98);
    result(z, 96, 10, -2, 2, 1, 0, 9);
    sell(z, LIMIT, 1, 97);
    buy(z, LIMIT, 1, 96);
    result(z, 96, 11, -1, 0, 1, 0, 1);
    mixedRests();
  }

  /** At first nothing is left at 100 alone; then two more are bought up to it, two more sold behind it. */
  private static void mixedRests() {
    OpenCross x = new OpenCross();
    buy(x, LIMIT, 10, 104);
    sell(x, LIMIT, 10, 96);
    buy(x, LIMIT, 2, 99);
    sell(x, LIMIT, 2, 101);
    x.told(1, EVEN, 9, 150, 0, 0, 0);
    result(x, 100, 10, 0, 1, 1, 0, 9);
    sell(x, LIMIT, 3, 100);
    buy(x, LIMIT, 3, 100);
    x.gone(5);
    x.gone(6);
    x.gone(2);
    x.gone(3);
    buy(x, LIMIT, 2, 100);
    sell(x, LIMIT, 2, 101);
    result(x, 100, 10, 2, 3, 1, 0, 9);
    x.reference(101);
    result(x, 101, 10, -2, 3, 1, 0, 9);
    x.reference(99);
    result(x, 99, 10, 2, 3, 1, 0, 9);
    nearestOfTwo();
    x.collar(98, 100);
    result(x, 100, 10, 2, 2, 1, 0, 3);
    x.collar(101, 103);
    result(x, 101, 10, -2, 2, 1, 0, 3);
  }

  /** 99 and 101 are alike but for the sign of what is left; between them fewer trade. */
  private static void nearestOfTwo() {
    OpenCross x = new OpenCross();
    buy(x, LIMIT, 5, 99);
    buy(x, LIMIT, 7, 101);
    sell(x, LIMIT, 4, 99);
    sell(x, LIMIT, 8, 101);
    sell(x, EVEN, 6, 99);
    buy(x, EVEN, 3, 101);
    result(x, 101, 10, -2, 3, 1, 0, 2);
    x.reference(99);
    result(x, 99, 10, 2, 3, 1, 0, 2);
    x.reference(999);
    result(x, 101, 10, -2, 3, 1, 0, 2);
  }

  private static void rounds() {
    OpenCross x = new OpenCross();
    sell(x, LIMIT, 10, 100);
    x.told(0, LIMIT, 8, 100, 0, 8, 0);
    x.told(0, LIMIT, 8, 100, 0, 3, 0);
    x.told(0, LIMIT, 8, 101, 0, 8, 0);
    result(x, 100, 8, -2, 2, 3, 2, 2);
    due("fill(1)", x.fill(1), -2);
    due("fill(2)", x.fill(2), -2);
    due("fill(3)", x.fill(3), 8);
    x.told(1, LIMIT, 7, 100, 0, 4, 0);
    result(x, 100, 16, -1, 0, 2, 1, 1);
  }

  private static void p16() {
    promise = "16 fill";
    OpenCross x = four();
    int[] fills = {100, 50, 150, 0, -1};
    for (int o = 0; o < 5; o++) due("fill(" + o + ")", x.fill(o), fills[o]);
    due("fill(-1)", x.fill(-1), -1);
    due("fill(far)", x.fill(FAR), -1);
    x.told(0, LIMIT, 60, 102, 0, 55, 0);
    x.told(0, ICE, 60, 102, 20, 0, 0);
    x.told(0, EVEN, 60, 102, 0, 0, 0);
    x.gone(1);
    x.gone(3);
    due("fill of a gone one", x.fill(1), -1);
    due("fill of an out one", x.fill(4), -2);
    due("fill of an ice in part", x.fill(5), 50);
    due("fill of an even one of the side that is more", x.fill(6), 0);
    x.cross();
    due("fill of one gone ahead, crossed", x.fill(1), -1);
    due("fill of one gone by it", x.fill(0), 100);
    due("fill of an out one, crossed", x.fill(4), -2);
    due("fill of an even one, gone by it", x.fill(6), 0);
    due("fill of another", x.fill(7), -1);
  }

  private static void p17() {
    promise = "17 slice";
    OpenCross x = new OpenCross();
    x.told(0, EVEN, 1, 110, 0, 0, 0);
    x.told(0, HIDDEN, 2, 105, 0, 0, 0);
    x.told(0, ICE, 30, 105, 10, 0, 0);
    x.told(0, LIMIT, 4, 105, 0, 0, 0);
    x.told(0, LIMIT, 5, 106, 0, 0, 0);
    x.told(0, MARKET, 6, 0, 0, 0, 0);
    x.told(0, LIMIT, 7, 99, 0, 0, 0);
    x.told(0, EVEN, 8, 111, 0, 0, 0);
    x.told(0, MARKET, 9, 0, 0, 0, 0);
    x.told(0, HIDDEN, 11, 105, 0, 0, 0);
    x.told(0, LIMIT, 12, 107, 0, 0, 0);
    x.gone(10);
    x.told(0, ICE, 13, 100, 13, 0, 0);
    int[][] buys = {{5, 6}, {8, 9}, {4, 5}, {2, 10}, {3, 4}, {1, 2}, {2, 20}, {9, 11}, {11, 13}, {7, 8}, {0, 1}};
    due("slice(0, 100, -1, 0)", x.slice(0, 100, -1, 0), buys.length);
    for (int i = 0; i < buys.length; i++) for (int w = 0; w < 2; w++) due("slice(0, 100, " + i + ", " + w + ")", x.slice(0, 100, i, w), buys[i][w]);
    due("slice(0, 106, -1, 0)", x.slice(0, 106, -1, 0), 5);
    due("slice(0, 106, 2, 0)", x.slice(0, 106, 2, 0), 4);
    due("slice(0, 999, -1, 1)", x.slice(0, 999, -1, 1), 2);
    x.told(1, LIMIT, 3, 50, 0, 0, 0);
    x.told(1, HIDDEN, 4, 49, 0, 0, 0);
    due("slice(1, 50, 0, 0): the lower of those that sell", x.slice(1, 50, 0, 0), 13);
    due("slice(1, 50, 1, 0)", x.slice(1, 50, 1, 0), 12);
    due("slice(1, 49, -1, 0)", x.slice(1, 49, -1, 0), 1);
    due("slice(1, 48, -1, 0)", x.slice(1, 48, -1, 0), 0);
    OpenCross y = new OpenCross();
    buy(y, LIMIT, 3, 999);
    buy(y, EVEN, 3, 999);
    buy(y, MARKET, 4, 0);
    for (int i = 0; i < 3; i++) due("slice(0, 999, " + i + ", 0)", y.slice(0, 999, i, 0), new int[] {2, 0, 1}[i]);
    int[][] bad = {{0, 100, 11, 0}, {0, 100, -2, 0}, {0, 100, 0, 2}, {0, 100, 0, -1}, {2, 100, 0, 0}, {-1, 100, -1, 0}, {0, 0, 0, 0}, {0, 1000, -1, 0}, {0, 100, FAR, FAR},
        {0, 100, -1, 2}, {0, 100, -1, -1}, {1, 50, -1, FAR}, {1, 48, -1, DEEP}};
    for (int[] b : bad) due("slice of others", x.slice(b[0], b[1], b[2], b[3]), -1);
  }

  private static void p18() {
    promise = "18 trade";
    OpenCross x = four();
    trades(x, 0, 2, 100, 1, 2, 50);
    due("trade(2, 0)", x.trade(2, 0), -1);
    due("trade(0, 3)", x.trade(0, 3), -1);
    due("trade(0, -1)", x.trade(0, -1), -1);
    due("trade(-2, 0)", x.trade(-2, 0), -1);
    for (int w : new int[] {3, -1, FAR, DEEP}) due("trade(-1, " + w + "): what is another", x.trade(-1, w), -1);
    for (int w = 0; w < 3; w++) due("trade(-1, " + w + ")", x.trade(-1, w), 2);
    due("trade(far, 0)", x.trade(FAR, 0), -1);
    x.told(1, ICE, 120, 98, 40, 0, 0);
    x.told(1, EVEN, 90, 97, 0, 0, 0);
    trades(x, 0, 4, 40, 0, 4, 60, 1, 4, 20, 1, 2, 150, 1, 5, 30);
    x.cross();
    trades(x, 0, 4, 40, 0, 4, 60, 1, 4, 20, 1, 2, 150, 1, 5, 30);
    x.open();
    trades(x);
    OpenCross y = new OpenCross();
    for (int k = 0; k < 4; k++) buy(y, LIMIT, 1, 50);
    sell(y, LIMIT, 3, 50);
    trades(y, 0, 4, 1, 1, 4, 1, 2, 4, 1);
    OpenCross z = new OpenCross();
    for (int k = 0; k < 20; k++) {
      z.told(0, ICE, 5, 50, 2, 0, 0);
      z.told(1, ICE, 5, 50, 3, 0, 0);
    }
    due("trade(-1, 0) of many slices", z.trade(-1, 0), 67);
    due("trade(66, 2)", z.trade(66, 2), 2);
    due("trade(67, 2)", z.trade(67, 2), -1);
  }

  private static void p19() {
    promise = "19 notice";
    OpenCross x = four();
    x.told(1, HIDDEN, 900, 50, 0, 0, 0);
    x.told(1, ICE, 400, 99, 30, 400, 0);
    x.told(0, LIMIT, 40, 100, 0, 40, 0);
    int[] due = {100, 180, 160, 2};
    for (int w = 0; w < 4; w++) { int a = w; due("notice(" + w + ")", get(() -> x.notice(a)), due[w]); }
    due("notice(6)", x.notice(6), 2);
    int[] bad = {4, 5, 7, -1, FAR, DEEP};
    for (int b : bad) due("notice(" + b + ")", get(() -> x.notice(b)), THROWS);
    x.cross();
    due("notice(0), crossed: by orders as they are now", x.notice(0), -1);
    due("notice(6), crossed", x.notice(6), 0);
    OpenCross y = new OpenCross();
    y.told(1, LIMIT, 20, 100, 0, 15, 0);
    y.told(0, LIMIT, 10, 100, 0, 0, 0);
    due("notice(1): no least", y.notice(1), 10);
    due("crossed(1): least", y.crossed(1), 0);
    OpenCross z = new OpenCross();
    z.told(1, HIDDEN, 20, 100, 0, 0, 0);
    z.told(0, ICE, 10, 100, 4, 0, 0);
    due("notice(1): hidden alone", z.notice(1), 0);
    z.told(1, MARKET, 20, 0, 0, 0, 0);
    due("notice(1): what the ice shows", z.notice(1), 4);
  }

  private static void p20() {
    promise = "20 without";
    OpenCross x = four();
    due("without(0)", x.without(0), 100);
    due("without(1)", x.without(1), 99);
    due("without(2)", x.without(2), 101);
    due("without(3)", x.without(3), 100);
    due("without(4)", x.without(4), -2);
    due("without(-1)", x.without(-1), -2);
    due("without(deep)", x.without(DEEP), -2);
    x.gone(2);
    due("without(2), gone", x.without(2), -2);
    due("without(0): no price", x.without(0), -1);
    due("count(8): nothing is done", x.count(8), 5);
    x.freeze();
    due("without(3), frozen", x.without(3), -1);
    x.cross();
    due("without(1), crossed", x.without(1), -2);
  }

  private static void p21() {
    promise = "21 with";
    OpenCross x = four();
    due("with(1, 0, 200, -7)", x.with(1, MARKET, 200, -7), 99);
    due("with(1, 1, 150, 100)", x.with(1, LIMIT, 150, 100), 100);
    due("with(0, 3, 500, 101)", x.with(0, ICE, 500, 101), 101);
    due("with(0, 1, 1, 1)", x.with(0, LIMIT, 1, 1), 100);
    int[][] bad = {{2, 0, 1, 1}, {-1, 0, 1, 1}, {0, 5, 1, 1}, {0, -1, 1, 1}, {0, 1, 0, 1}, {0, 1, 10000, 1}, {0, 1, 1, 0}, {0, 1, 1, 1000}};
    for (int[] b : bad) due("with of others", x.with(b[0], b[1], b[2], b[3]), -2);
    due("count(0)", x.count(0), 4);
    x.freeze();
    due("with, frozen, whatever it does", x.with(0, MARKET, 9999, 0), 999);
    x.cross();
    due("with, crossed", x.with(0, LIMIT, 1, 1), -2);
    OpenCross y = new OpenCross();
    for (int k = 0; k < 40; k++) y.told(0, LIMIT, 1, 40, 0, 0, 0);
    due("with, none before", y.with(0, LIMIT, 1, 40), -1);
    due("with a 41st", y.with(1, LIMIT, 9999, 40), 40);
    due("count(0)", y.count(0), 40);
  }

  private static void p22() {
    promise = "22 moves";
    OpenCross x = four();
    due("moves(1, 0)", x.moves(1, 0), 151);
    due("moves(1, 1)", x.moves(1, 1), 99);
    due("moves(0, 0)", x.moves(0, 0), 50);
    due("moves(0, 1)", x.moves(0, 1), 101);
    int[][] bad = {{2, 0}, {-1, 0}, {0, 2}, {0, -1}, {FAR, DEEP}};
    for (int[] b : bad) due("moves of others", x.moves(b[0], b[1]), -1);
    OpenCross y = new OpenCross();
    due("moves(0, 0) by none", y.moves(0, 0), -1);
    due("moves(0, 1) by none", y.moves(0, 1), -1);
    buy(y, LIMIT, 300, 100);
    sell(y, LIMIT, 100, 100);
    due("moves(1, 0): 200 are not enough", y.moves(1, 0), -1);
    due("moves(0, 0)", y.moves(0, 0), 100);
    due("moves(0, 1)", y.moves(0, 1), 101);
    OpenCross z = four();
    z.told(0, LIMIT, 49, 100, 0, 0, 0);
    due("moves(1, 0): at 200", z.moves(1, 0), 200);
    due("moves(1, 1)", z.moves(1, 1), 99);
    z.told(0, LIMIT, 1, 100, 0, 0, 0);
    due("moves(1, 0): at 201", z.moves(1, 0), -1);
    due("moves(1, 1): at 201", z.moves(1, 1), -1);
    x.cross();
    due("moves, crossed", x.moves(0, 0), -1);
    movesToNone();
  }

  private static void movesToNone() {
    OpenCross x = new OpenCross();
    x.told(0, LIMIT, 10, 100, 0, 10, 0);
    x.told(1, LIMIT, 10, 100, 0, 10, 0);
    due("moves(1, 0): the least of one is not met", x.moves(1, 0), 1);
    due("moves(1, 1): no price", x.moves(1, 1), -1);
    due("moves(0, 1)", x.moves(0, 1), -1);
  }

  private static void p23() {
    promise = "23 swings";
    OpenCross x = four();
    due("swings()", x.swings(), 0b0110);
    x.gone(2);
    due("swings()", x.swings(), 0b1001);
    x.cross();
    due("swings(), crossed", x.swings(), 0);
    OpenCross y = new OpenCross();
    for (int k = 0; k < 39; k++) y.told(0, LIMIT, 1, 40, 0, 0, 0);
    y.told(1, LIMIT, 1, 40, 0, 0, 0);
    due("swings(): the 40th alone", y.swings(), 1L << 39);
    due("swings() of nothing", new OpenCross().swings(), 0);
  }

  private static void p24() {
    promise = "24 level";
    OpenCross x = new OpenCross();
    x.told(0, LIMIT, 10, 100, 0, 0, 0);
    x.told(0, HIDDEN, 20, 100, 0, 0, 0);
    x.told(0, ICE, 30, 101, 12, 0, 0);
    x.told(0, EVEN, 40, 101, 0, 0, 0);
    x.told(0, MARKET, 50, 0, 0, 0, 0);
    x.told(0, LIMIT, 60, 103, 0, 0, 0);
    x.told(1, LIMIT, 70, 130, 0, 0, 0);
    x.told(1, HIDDEN, 80, 120, 0, 0, 0);
    x.gone(5);
    int[][] buys = {{101, 52, 70, 2}, {100, 10, 30, 2}};
    int[][] sells = {{120, 0, 80, 1}, {130, 70, 70, 1}};
    for (int i = 0; i < 2; i++) {
      for (int w = 0; w < 4; w++) {
        due("level(0, " + i + ", " + w + ")", x.level(0, i, w), buys[i][w]);
        due("level(1, " + i + ", " + w + ")", x.level(1, i, w), sells[i][w]);
      }
    }
    due("level(0, -1, 0)", x.level(0, -1, 0), 2);
    due("level(1, -1, 3)", x.level(1, -1, 3), 2);
    int[][] bad = {{0, 2, 0}, {0, -2, 0}, {0, 0, 4}, {0, 0, -1}, {2, 0, 0}, {-1, -1, 0}, {0, FAR, 0}, {1, DEEP, DEEP},
        {0, -1, -1}, {0, -1, 4}, {1, -1, FAR}, {1, -1, DEEP}};
    for (int[] b : bad) due("level of others", x.level(b[0], b[1], b[2]), -1);
    OpenCross z = new OpenCross();
    buy(z, LIMIT, 3, 999);
    due("count(7)", z.count(7), 1000);
    sell(z, LIMIT, 4, 1);
    due("level(0, 0, 0)", z.level(0, 0, 0), 999);
    due("level(1, 0, 0)", z.level(1, 0, 0), 1);
    OpenCross y = new OpenCross();
    for (int k = 0; k < 40; k++) y.told(1, LIMIT, 1, 999 - k, 0, 0, 0);
    due("level(1, -1, 0)", y.level(1, -1, 0), 40);
    due("level(1, 39, 0)", y.level(1, 39, 0), 999);
    due("level(1, 40, 0)", y.level(1, 40, 0), -1);
  }

  private static void p25() {
    promise = "25 past";
    OpenCross x = four();
    due("past(0, 0) of none", get(() -> x.past(0, 0)), THROWS);
    x.cross();
    int[] first = {100, 150, 150, 2};
    for (int w = 0; w < 4; w++) { int a = w; due("past(0, " + w + ")", get(() -> x.past(0, a)), first[w]); }
    int[][] bad = {{1, 0}, {-1, 0}, {0, 4}, {0, -1}, {FAR, 0}, {0, DEEP}};
    for (int[] b : bad) due("past of others", get(() -> x.past(b[0], b[1])), THROWS);
    x.back();
    due("past(0, 1) behind back", get(() -> x.past(0, 1)), 150);
    x.told(1, MARKET, 50, 0, 0, 0, 0);
    for (int k = 0; k < 8; k++) {
      due("past(" + k + ", 1)", get(() -> x.past(x.count(10) - 1, 1)), 150);
      x.cross();
      x.open();
    }
    due("past(7, 1)", get(() -> x.past(7, 1)), 200);
    due("past(7, 3)", get(() -> x.past(7, 3)), 3);
    due("past(6, 0)", get(() -> x.past(6, 0)), -1);
    due("past(0, 2)", get(() -> x.past(0, 2)), 0);
    due("past(8, 0)", get(() -> x.past(8, 0)), THROWS);
    due("count(10)", x.count(10), 9);
  }

  private static void p26() {
    promise = "26 owner";
    OpenCross x = four();
    x.told(1, LIMIT, 150, 98, 0, 0, 1);
    x.told(1, LIMIT, 9, 500, 0, 0, 7);
    int[][] due = {{0, 0, 0, 0}, {100, 150, 100, 3}, {200, 0, 0, 1}, {0, 150, 0, 1}, {0, 0, 0, 0}, {0, 0, 0, 0}, {0, 0, 0, 0}, {0, 0, 0, 1}};
    for (int o = 0; o < 8; o++) for (int w = 0; w < 4; w++) due("owner(" + o + ", " + w + ")", x.owner(o, w), due[o][w]);
    int[][] bad = {{8, 0}, {-1, 0}, {0, 4}, {0, -1}, {FAR, FAR}};
    for (int[] b : bad) due("owner of others", x.owner(b[0], b[1]), -1);
    x.cross();
    due("owner(1, 0), crossed", x.owner(1, 0), 100);
    due("owner(1, 2), crossed", x.owner(1, 2), 100);
    due("owner(1, 3), crossed: now", x.owner(1, 3), 1);
    due("owner(3, 3), crossed: now", x.owner(3, 3), 0);
    x.open();
    due("owner(1, 0), open", x.owner(1, 0), 0);
  }

  private static void p27() {
    promise = "27 gain";
    OpenCross x = four();
    due("gain()", x.gain(), 100 * 2 + 150);
    x.told(1, EVEN, 80, 90, 0, 0, 0);
    x.told(1, MARKET, 20, 0, 0, 0, 0);
    due("gain()", x.gain(), 200 + 150 + 800);
    x.told(1, HIDDEN, 30, 1, 0, 31 - 1, 0);
    due("gain()", x.gain(), 200 + 150 + 800 + 30 * 99);
    x.cross();
    due("gain(), crossed", x.gain(), 200 + 150 + 800 + 30 * 99);
    x.open();
    due("gain(), no price", x.gain(), 0);
    OpenCross y = new OpenCross();
    for (int k = 0; k < 20; k++) {
      y.told(0, LIMIT, 9999, 999, 0, 0, 0);
      y.told(1, LIMIT, 9999, 1, 0, 0, 0);
    }
    due("gain(), the most", y.gain(), 20L * 9999 * 998);
  }

  private static void p28() {
    promise = "28 left";
    OpenCross x = four();
    due("left()", x.left(), 0);
    x.told(1, ICE, 120, 98, 40, 0, 0);
    x.told(1, EVEN, 90, 97, 0, 0, 0);
    x.told(0, MARKET, 90, 0, 0, 0, 0);
    due("left()", x.left(), 0);
    x.told(1, LIMIT, 200, 99, 0, 190, 0);
    due("crossed(5)", x.crossed(5), 1);
    due("left(): those that are out left out", x.left(), 0);
    x.cross();
    due("left(), crossed", x.left(), 0);
    due("curve(100, 4): with it there would be some", x.curve(100, 4), 30);
    due("left() of nothing", new OpenCross().left(), 0);
  }

  private static void p29() {
    promise = "29 count";
    OpenCross x = new OpenCross();
    x.told(0, MARKET, 5, 0, 0, 0, 0);
    x.told(1, MARKET, 5, 0, 0, 0, 0);
    due("count(6): a market one has no price", x.count(6), 0);
    due("count(7): a market one has no price", x.count(7), 1000);
    x.told(0, EVEN, 5, 70, 0, 0, 0);
    x.told(0, LIMIT, 5, 60, 0, 0, 0);
    x.told(1, HIDDEN, 5, 80, 0, 0, 0);
    x.told(1, LIMIT, 5, 75, 0, 0, 0);
    x.gone(5);
    x.reference(7);
    x.collar(8, 9);
    x.feed(0, 0, 0, 0, 0);
    int[] due = {6, 0, 7, 8, 9, 5, 70, 80, 9, 20, 0, -1};
    for (int w = 0; w < due.length; w++) due("count(" + w + ")", x.count(w), due[w]);
    due("count(-1)", x.count(-1), -1);
    OpenCross y = new OpenCross();
    sell(y, LIMIT, 5, 30);
    due("count(6) without", y.count(6), 0);
    due("count(7) with", y.count(7), 30);
    due("count(deep)", x.count(DEEP), -1);
    x.cross();
    due("count(10)", x.count(10), 1);
    x.back();
    due("count(10) behind back", x.count(10), 1);
    x.cross();
    due("count(10)", x.count(10), 2);
    due("count(8)", x.count(8), 10);
  }

  public static void main(String[] args) {
    p1(); p2(); p3(); p4(); p5(); p6(); p7(); p8(); p9(); p10();
    p11(); p12(); p13(); p14(); p15(); p16(); p17(); p18(); p19(); p20();
    p21(); p22(); p23(); p24(); p25(); p26(); p27(); p28(); p29();
    System.out.println(wrong == 0 ? "all promises hold" : wrong + " answers are not as due");
    if (wrong != 0) System.exit(1);
  }
}
