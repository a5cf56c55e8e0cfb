/** THE PRICE, SLICES, FILLS, THE CROSS, TRADES, NOTICE and the freeze, as the terms tell them: each edge has a test of its own. */
public final class OpenCrossTermEdges extends Checks {

  private static void willing() {
    edge("WILLING: that BUYS for p or more", () -> {
      OpenCross x = new OpenCross();
      buy(x, LIMIT, 5, 100);
      curve(x, 99, 5);
      curve(x, 100, 5);
      curve(x, 101, 0);
    });
    edge("WILLING: that SELLS for p or less", () -> {
      OpenCross x = new OpenCross();
      sell(x, LIMIT, 5, 100);
      curve(x, 99, 0, 0);
      curve(x, 100, 0, 5);
      curve(x, 101, 0, 5);
    });
    edge("WILLING: at the lowest PRICE, 1", () -> {
      OpenCross x = new OpenCross();
      buy(x, LIMIT, 5, 1);
      sell(x, HIDDEN, 7, 1);
      curve(x, 1, 5, 7);
      curve(x, 2, 0, 7);
      result(x, 1, 5, -2, 0, 1, 0, 1);
    });
    edge("WILLING: at the highest PRICE, 999", () -> {
      OpenCross x = new OpenCross();
      buy(x, LIMIT, 5, 999);
      sell(x, HIDDEN, 7, 999);
      curve(x, 999, 5, 7);
      curve(x, 998, 5, 0);
      result(x, 999, 5, -2, 0, 1, 0, 1);
    });
    edge("WILLING: MARKET at every PRICE", () -> {
      OpenCross x = new OpenCross();
      buy(x, MARKET, 5, 0);
      sell(x, MARKET, 7, 0);
      curve(x, 1, 5, 7);
      curve(x, 999, 5, 7);
      due("crossed(6)", x.crossed(6), 999);
    });
    edge("WILLING: (not GONE)", () -> {
      OpenCross x = four();
      x.gone(0);
      x.gone(2);
      curve(x, 100, 200, 0, 200, 0, 0, 200);
    });
  }

  private static void curves() {
    edge("BOUGHT, SOLD: all but EVEN ones", () -> {
      OpenCross x = new OpenCross();
      for (int kind = MARKET; kind <= EVEN; kind++) {
        buy(x, kind, 1 << kind, 100);
        sell(x, kind, 100 << kind, 100);
      }
      curve(x, 100, 15, 1500);
    });
    edge("BOUGHT, SOLD: the most that there can be", () -> {
      OpenCross x = new OpenCross();
      for (int k = 0; k < 40; k++) buy(x, LIMIT, 9999, 100);
      curve(x, 100, 399960, 0, 399960, 0, 0, 399960);
    });
    edge("OVER: BOUGHT less SOLD, below 0, too", () -> {
      OpenCross x = new OpenCross();
      sell(x, LIMIT, 9, 100);
      buy(x, LIMIT, 8, 100);
      curve(x, 100, 8, 9, -1, 0, 8, -1);
    });
    edge("HELP: none if OVER is 0, though EVEN ones of both SIDES be WILLING", () -> {
      OpenCross x = new OpenCross();
      buy(x, LIMIT, 5, 100);
      sell(x, LIMIT, 5, 100);
      buy(x, EVEN, 3, 100);
      sell(x, EVEN, 4, 100);
      curve(x, 100, 5, 5, 0, 0, 5, 0);
      fills(x, 5, 5, 0, 0);
    });
    edge("HELP: those that SELL, if OVER is above 0", () -> {
      OpenCross x = new OpenCross();
      buy(x, LIMIT, 5, 100);
      buy(x, EVEN, 3, 100);
      sell(x, EVEN, 4, 100);
      curve(x, 100, 5, 0, 5, 4, 4, 1);
      fills(x, 4, 0, 4);
    });
    edge("HELP: those that BUY, if OVER is below 0", () -> {
      OpenCross x = new OpenCross();
      sell(x, LIMIT, 5, 100);
      sell(x, EVEN, 3, 100);
      buy(x, EVEN, 4, 100);
      curve(x, 100, 0, 5, -5, 4, 4, -1);
      fills(x, 4, 0, 4);
    });
    edge("HELP: OVER at most (its sign left out)", () -> {
      for (int many = 4; many <= 6; many++) {
        OpenCross x = new OpenCross();
        buy(x, LIMIT, 5, 100);
        sell(x, EVEN, many, 100);
        curve(x, 100, 5, 0, 5, Math.min(many, 5), Math.min(many, 5), 5 - Math.min(many, 5));
        OpenCross y = new OpenCross();
        sell(y, LIMIT, 5, 100);
        buy(y, EVEN, many, 100);
        curve(y, 100, 0, 5, -5, Math.min(many, 5), Math.min(many, 5), Math.min(many, 5) - 5);
      }
    });
    edge("HELP: OVER of one", () -> {
      OpenCross x = new OpenCross();
      buy(x, LIMIT, 2, 100);
      sell(x, LIMIT, 1, 100);
      sell(x, EVEN, 1, 100);
      curve(x, 100, 2, 1, 1, 1, 2, 0);
      OpenCross y = new OpenCross();
      sell(y, LIMIT, 2, 100);
      buy(y, LIMIT, 1, 100);
      buy(y, EVEN, 1, 100);
      curve(y, 100, 1, 2, -1, 1, 2, 0);
    });
    edge("HELP: of WILLING EVEN ones", () -> {
      OpenCross x = new OpenCross();
      buy(x, LIMIT, 9, 100);
      sell(x, EVEN, 2, 100);
      sell(x, EVEN, 3, 101);
      curve(x, 100, 9, 0, 9, 2, 2, 7);
      curve(x, 99, 9, 0, 9, 0, 0, 9);
    });
    edge("VOLUME: EVEN ones alone have none", () -> {
      OpenCross x = new OpenCross();
      buy(x, EVEN, 9, 100);
      sell(x, EVEN, 9, 100);
      curve(x, 100, 0, 0, 0, 0, 0, 0);
      result(x, -1, 0, 0, 0, 1, 0, 0);
    });
  }

  private static void collar() {
    edge("THE PRICE: of those of COLLAR: its low one belongs to it, the one below does not", () -> {
      OpenCross x = four();
      x.collar(99, 102);
      result(x, 100, 150, 150, 2, 1, 0, 2);
      x.collar(100, 102);
      result(x, 100, 150, 150, 0, 1, 0, 1);
      x.collar(101, 999);
      result(x, 101, 100, -150, 2, 1, 0, 2);
    });
    edge("THE PRICE: of those of COLLAR: its high one belongs to it, the one above does not", () -> {
      OpenCross x = four();
      x.collar(1, 100);
      result(x, 100, 150, 150, 2, 1, 0, 2);
      x.collar(1, 99);
      result(x, 99, 150, 150, 0, 1, 0, 1);
      x.collar(1, 98);
      result(x, -1, 0, 0, 0, 1, 0, 0);
    });
    edge("THE PRICE: COLLAR of one PRICE", () -> {
      OpenCross x = four();
      x.collar(102, 102);
      result(x, 102, 100, -150, 0, 1, 0, 1);
      x.collar(103, 103);
      result(x, -1, 0, 0, 0, 1, 0, 0);
    });
    edge("THE PRICE: KEY 2 goes to the end of COLLAR", () -> {
      OpenCross x = new OpenCross();
      buy(x, MARKET, 5, 0);
      sell(x, MARKET, 3, 0);
      result(x, 999, 3, 2, 2, 1, 0, 999);
      x.collar(20, 30);
      result(x, 30, 3, 2, 2, 1, 0, 11);
      sell(x, MARKET, 3, 0);
      result(x, 20, 5, -1, 2, 1, 0, 11);
      x.collar(1, 999);
      result(x, 1, 5, -1, 2, 1, 0, 999);
    });
    edge("THE PRICE: REFERENCE outside of COLLAR: its nearest end", () -> {
      OpenCross x = new OpenCross();
      buy(x, MARKET, 5, 0);
      sell(x, MARKET, 5, 0);
      x.collar(20, 30);
      result(x, 30, 5, 0, 3, 1, 0, 11);
      x.reference(1);
      result(x, 20, 5, 0, 3, 1, 0, 11);
      x.reference(20);
      result(x, 20, 5, 0, 3);
      x.reference(21);
      result(x, 21, 5, 0, 3);
      x.reference(30);
      result(x, 30, 5, 0, 3);
    });
  }

  private static void keys() {
    edge("THE PRICE: if the greatest VOLUME is 0, there is none", () -> {
      OpenCross x = new OpenCross();
      result(x, -1, 0, 0, 0, 1, 0, 0);
      buy(x, LIMIT, 5, 99);
      result(x, -1, 0, 0, 0, 1, 0, 0);
      sell(x, LIMIT, 5, 100);
      result(x, -1, 0, 0, 0, 1, 0, 0);
      sell(x, LIMIT, 1, 99);
      result(x, 99, 1, 4, 0, 1, 0, 1);
    });
    edge("THE PRICE: KEY 0: the greatest VOLUME, by one share", () -> {
      OpenCross x = new OpenCross();
      buy(x, LIMIT, 10, 105);
      sell(x, LIMIT, 10, 95);
      buy(x, LIMIT, 1, 104);
      sell(x, LIMIT, 1, 104);
      result(x, 104, 11, 0, 0, 1, 0, 1);
    });
    edge("THE PRICE: KEY 0 is ahead of KEY 1: the greatest VOLUME, however great its REST, from above and from below", () -> {
      OpenCross x = new OpenCross();
      buy(x, LIMIT, 11, 100);
      sell(x, LIMIT, 10, 95);
      sell(x, LIMIT, 40, 100);
      result(x, 100, 11, -39, 0, 1, 0, 1);
      OpenCross y = new OpenCross();
      sell(y, LIMIT, 11, 100);
      buy(y, LIMIT, 10, 105);
      buy(y, LIMIT, 40, 100);
      result(y, 100, 11, 39, 0, 1, 0, 1);
    });
    edge("THE PRICE: KEY 1: the least REST, by one share, below 0, too", () -> {
      OpenCross x = new OpenCross();
      buy(x, LIMIT, 10, 101);
      sell(x, LIMIT, 10, 100);
      buy(x, LIMIT, 2, 100);
      sell(x, LIMIT, 1, 101);
      result(x, 101, 10, -1, 1, 1, 0, 2);
      sell(x, LIMIT, 2, 101);
      result(x, 100, 10, 2, 1, 1, 0, 2);
    });
    edge("THE PRICE: KEY 2: REST above 0 for all: the highest", () -> {
      OpenCross x = new OpenCross();
      buy(x, LIMIT, 11, 105);
      sell(x, LIMIT, 10, 95);
      x.reference(95);
      result(x, 105, 10, 1, 2, 1, 0, 11);
    });
    edge("THE PRICE: KEY 2: REST below 0 for all: the lowest", () -> {
      OpenCross x = new OpenCross();
      buy(x, LIMIT, 10, 105);
      sell(x, LIMIT, 11, 95);
      x.reference(105);
      result(x, 95, 10, -1, 2, 1, 0, 11);
    });
    edge("THE PRICE: KEY 2 does not decide where REST is 0 for all", () -> {
      OpenCross x = new OpenCross();
      buy(x, LIMIT, 10, 105);
      sell(x, LIMIT, 10, 95);
      result(x, 100, 10, 0, 3, 1, 0, 11);
    });
    edge("THE PRICE: KEY 2 does not decide where REST is above 0 for some, below 0 for others", () -> {
      OpenCross x = new OpenCross();
      buy(x, LIMIT, 10, 104);
      sell(x, LIMIT, 10, 96);
      buy(x, LIMIT, 2, 100);
      sell(x, LIMIT, 2, 101);
      result(x, 100, 10, 2, 3, 1, 0, 9);
      x.collar(96, 100);
      result(x, 100, 10, 2, 2, 1, 0, 5);
      x.collar(101, 104);
      result(x, 101, 10, -2, 2, 1, 0, 4);
    });
    edge("THE PRICE: KEY 2 goes by those that KEY 1 leaves", () -> {
      OpenCross x = new OpenCross();
      buy(x, LIMIT, 10, 104);
      sell(x, LIMIT, 10, 96);
      buy(x, LIMIT, 1, 98);
      sell(x, LIMIT, 3, 99);
      x.reference(999);
      result(x, 98, 10, 1, 2, 1, 0, 9);
    });
    edge("THE PRICE: KEY 3: the nearest to REFERENCE, from above and from below", () -> {
      OpenCross x = new OpenCross();
      buy(x, LIMIT, 10, 105);
      sell(x, LIMIT, 10, 95);
      int[][] near = {{1, 95}, {94, 95}, {95, 95}, {96, 96}, {104, 104}, {105, 105}, {106, 105}, {999, 105}};
      for (int[] n : near) {
        x.reference(n[0]);
        result(x, n[1], 10, 0, 3);
      }
    });
    edge("THE PRICE: KEY 3: of two the higher", () -> {
      OpenCross x = twoAlike();
      x.reference(100);
      result(x, 101, 10, -2, 3, 1, 0, 2);
      x.reference(99);
      result(x, 99, 10, 2, 3, 1, 0, 2);
      x.reference(1);
      result(x, 99, 10, 2, 3, 1, 0, 2);
      x.reference(102);
      result(x, 101, 10, -2, 3, 1, 0, 2);
      x.reference(999);
      result(x, 101, 10, -2, 3, 1, 0, 2);
    });
    edge("THE PRICE: DECIDED by the first KEY that leaves but one: KEY 0, where there is but one", () -> {
      OpenCross x = four();
      x.collar(100, 100);
      result(x, 100, 150, 150, 0, 1, 0, 1);
    });
  }

  /** 99 and 101 are alike but for the sign of what is left; at 100 fewer trade. */
  private static OpenCross twoAlike() {
    OpenCross x = new OpenCross();
    buy(x, LIMIT, 5, 99);
    buy(x, LIMIT, 7, 101);
    sell(x, LIMIT, 4, 99);
    sell(x, LIMIT, 8, 101);
    sell(x, EVEN, 6, 99);
    buy(x, EVEN, 3, 101);
    return x;
  }

  private static void slicesInTurn() {
    edge("SLICES: of an ICE two: SHOWS, and what else it has", () -> {
      OpenCross x = new OpenCross();
      x.told(0, ICE, 5, 100, 4, 0, 0);
      slices(x, 0, 100, 0, 4, 0, 1);
    });
    edge("SLICES: (if any): an ICE that SHOWS all has one", () -> {
      OpenCross x = new OpenCross();
      x.told(0, ICE, 5, 100, 5, 0, 0);
      x.told(0, ICE, 1, 100, 1, 0, 0);
      slices(x, 0, 100, 0, 5, 1, 1);
      x.told(0, ICE, 9, 99, 5, 0, 0);
      x.less(2, 5);
      slices(x, 0, 99, 0, 5, 1, 1, 2, 5);
    });
    edge("SLICES: one of each WILLING ORDER: at its PRICE, not beyond", () -> {
      OpenCross x = new OpenCross();
      buy(x, LIMIT, 5, 100);
      sell(x, EVEN, 6, 100);
      slices(x, 0, 100, 0, 5);
      slices(x, 0, 101);
      slices(x, 1, 100, 1, 6);
      slices(x, 1, 99);
    });
    edge("SLICES: none without a WILLING ORDER", () -> {
      OpenCross x = new OpenCross();
      slices(x, 0, 1);
      slices(x, 1, 999);
      buy(x, MARKET, 5, 0);
      x.gone(0);
      slices(x, 0, 1);
    });
    edge("SLICES: EVEN ones are behind all others, whatever their PRICE", () -> {
      OpenCross x = new OpenCross();
      buy(x, EVEN, 1, 999);
      buy(x, HIDDEN, 2, 1);
      buy(x, MARKET, 3, 0);
      slices(x, 0, 1, 2, 3, 1, 2, 0, 1);
      sell(x, EVEN, 4, 1);
      sell(x, HIDDEN, 5, 999);
      sell(x, MARKET, 6, 0);
      slices(x, 1, 999, 5, 6, 4, 5, 3, 4);
    });
    edge("SLICES: EVEN ones among themselves by PRICE, then by numbers", () -> {
      OpenCross x = new OpenCross();
      buy(x, EVEN, 1, 100);
      buy(x, EVEN, 2, 101);
      buy(x, EVEN, 3, 101);
      slices(x, 0, 100, 1, 2, 2, 3, 0, 1);
    });
    edge("SLICES: MARKET first, ahead of a LIMIT at the best PRICE there is", () -> {
      OpenCross x = new OpenCross();
      buy(x, LIMIT, 1, 999);
      buy(x, MARKET, 2, 0);
      slices(x, 0, 999, 1, 2, 0, 1);
      sell(x, LIMIT, 3, 1);
      sell(x, MARKET, 4, 0);
      slices(x, 1, 1, 3, 4, 2, 3);
    });
    edge("SLICES: the higher PRICE of those that BUY", () -> {
      OpenCross x = new OpenCross();
      buy(x, LIMIT, 1, 1);
      buy(x, HIDDEN, 2, 2);
      buy(x, LIMIT, 3, 998);
      buy(x, HIDDEN, 4, 999);
      slices(x, 0, 1, 3, 4, 2, 3, 1, 2, 0, 1);
    });
    edge("SLICES: the lower PRICE of those that SELL", () -> {
      OpenCross x = new OpenCross();
      sell(x, LIMIT, 1, 999);
      sell(x, HIDDEN, 2, 998);
      sell(x, LIMIT, 3, 2);
      sell(x, HIDDEN, 4, 1);
      slices(x, 1, 999, 3, 4, 2, 3, 1, 2, 0, 1);
    });
    edge("SLICES: by PRICE all over, from the lowest to the highest", () -> {
      OpenCross x = new OpenCross();
      for (int k = 0; k < 40; k++) x.told(k % 2, LIMIT, 1, 1 + 25 * (k * 17 % 40), 0, 0, 0);
      for (int side = 0; side < 2; side++) {
        for (int i = 1; i < 20; i++) {
          int ahead = x.order(x.slice(side, side == 0 ? 1 : 999, i - 1, 0), 3);
          int behind = x.order(x.slice(side, side == 0 ? 1 : 999, i, 0), 3);
          due("slice " + i + " is worse by 50", side == 0 ? ahead - behind : behind - ahead, 50);
        }
      }
    });
    edge("SLICES: SHOWN ones ahead of HIDDEN ones and what else an ICE has, of one PRICE", () -> {
      for (int side = 0; side < 2; side++) {
        OpenCross x = new OpenCross();
        x.told(side, ICE, 9, 100, 2, 0, 0);
        x.told(side, HIDDEN, 3, 100, 0, 0, 0);
        x.told(side, LIMIT, 4, 100, 0, 0, 0);
        x.told(side, ICE, 6, 100, 5, 0, 0);
        slices(x, side, 100, 0, 2, 2, 4, 3, 5, 0, 7, 1, 3, 3, 1);
      }
    });
    edge("SLICES: then by numbers, the last ones, too", () -> {
      OpenCross x = forty();
      due("slice(0, 40, 38, 0)", x.slice(0, 40, 38, 0), 38);
      due("slice(0, 40, 39, 0)", x.slice(0, 40, 39, 0), 39);
    });
    edge("SLICES: eighty of forty that are ICE", () -> {
      OpenCross x = new OpenCross();
      for (int k = 0; k < 40; k++) x.told(1, ICE, 9999, 999, 1, 0, 0);
      due("slice(1, 999, -1, 0)", x.slice(1, 999, -1, 0), 80);
      due("slice(1, 999, 39, 1)", x.slice(1, 999, 39, 1), 1);
      due("slice(1, 999, 40, 0)", x.slice(1, 999, 40, 0), 0);
      due("slice(1, 999, 79, 1)", x.slice(1, 999, 79, 1), 9998);
      due("slice(1, 999, 80, 1)", x.slice(1, 999, 80, 1), -1);
    });
  }

  private static void fillsInTurn() {
    edge("FILLS: as far as VOLUME goes (the last one in part)", () -> {
      OpenCross x = new OpenCross();
      for (int k = 0; k < 3; k++) buy(x, LIMIT, 5, 100);
      sell(x, LIMIT, 6, 100);
      fills(x, 5, 1, 0, 6);
    });
    edge("FILLS: as far as VOLUME goes, where a SLICE ends", () -> {
      OpenCross x = new OpenCross();
      for (int k = 0; k < 3; k++) buy(x, LIMIT, 5, 100);
      sell(x, LIMIT, 10, 100);
      fills(x, 5, 5, 0, 10);
    });
    edge("FILLS: of the SIDE that is more EVEN ones have none", () -> {
      OpenCross x = new OpenCross();
      buy(x, EVEN, 5, 120);
      buy(x, LIMIT, 9, 100);
      sell(x, EVEN, 6, 80);
      sell(x, LIMIT, 2, 100);
      fills(x, 0, 8, 6, 2);
      due("crossed(2)", x.crossed(2), 1);
    });
    edge("FILLS: EVEN ones in part", () -> {
      OpenCross x = new OpenCross();
      sell(x, LIMIT, 9, 100);
      buy(x, EVEN, 4, 100);
      buy(x, EVEN, 4, 101);
      buy(x, LIMIT, 3, 100);
      fills(x, 9, 2, 4, 3);
      due("crossed(2)", x.crossed(2), 0);
    });
    edge("FILL of an ORDER: of its SLICES together", () -> {
      OpenCross x = new OpenCross();
      x.told(0, ICE, 9, 100, 2, 0, 0);
      buy(x, LIMIT, 4, 100);
      sell(x, LIMIT, 7, 100);
      fills(x, 3, 4, 7);
    });
    edge("FILLS: none without a PRICE", () -> {
      OpenCross x = four();
      x.collar(103, 999);
      fills(x, 0, 0, 0, 0, -1);
      trades(x);
    });
  }

  private static void leasts() {
    edge("THE CROSS: a FILL less than LEAST by one: OUT", () -> {
      OpenCross x = new OpenCross();
      wants(x, 0, 9, 100, 5);
      sell(x, LIMIT, 4, 100);
      fills(x, -2, 0);
      result(x, -1, 0, 0, 0, 2, 1, 0);
    });
    edge("THE CROSS: a FILL as great as LEAST: not OUT", () -> {
      OpenCross x = new OpenCross();
      wants(x, 0, 9, 100, 5);
      sell(x, LIMIT, 5, 100);
      fills(x, 5, 5);
      result(x, 100, 5, 4, 0, 1, 0, 1);
    });
    edge("THE CROSS: no FILL at all: not OUT", () -> {
      OpenCross x = new OpenCross();
      buy(x, LIMIT, 4, 100);
      wants(x, 0, 9, 100, 9);
      wants(x, 0, 9, 50, 9);
      sell(x, LIMIT, 4, 100);
      fills(x, 4, 0, 0, 4);
      result(x, 100, 4, 9, 0, 1, 0, 1);
    });
    edge("THE CROSS: a FILL of 1, LEAST 1 and LEAST 2", () -> {
      OpenCross x = new OpenCross();
      sell(x, LIMIT, 1, 100);
      wants(x, 0, 2, 100, 1);
      fills(x, 1, 1);
      x.back();
      wants(x, 0, 2, 100, 2);
      fills(x, 0, -2);
    });
    edge("THE CROSS: of some that with the highest number is OUT, and all is anew", () -> {
      OpenCross x = new OpenCross();
      x.told(0, ICE, 9, 100, 2, 5, 0);
      wants(x, 0, 4, 100, 4);
      sell(x, LIMIT, 5, 100);
      fills(x, 5, -2, 5);
      result(x, 100, 5, 4, 0, 2, 1, 1);
    });
    edge("THE CROSS: on and on: those that are OUT stay so", () -> {
      OpenCross x = new OpenCross();
      wants(x, 0, 5, 100, 5);
      wants(x, 0, 4, 100, 4);
      wants(x, 0, 3, 100, 3);
      sell(x, LIMIT, 2, 100);
      fills(x, -2, -2, -2, 0);
      result(x, -1, 0, 0, 0, 4, 3, 0);
    });
    edge("THE CROSS: ROUNDS: the first one, too; the most", () -> {
      due("crossed(4) of nothing", new OpenCross().crossed(4), 1);
      OpenCross x = new OpenCross();
      for (int k = 0; k < 39; k++) wants(x, k % 2, 2, 100, 2);
      x.gone(38);
      due("told", x.told(0, LIMIT, 1, 100, 0, 1, 0), 39);
      result(x, 100, 38, 1, 0, 1, 0, 1);
      OpenCross y = new OpenCross();
      for (int k = 0; k < 39; k++) wants(y, 0, 2, 100, 2);
      sell(y, LIMIT, 1, 100);
      result(y, -1, 0, 0, 0, 40, 39, 0);
      fills(y, -2, -2);
      due("fill(38)", y.fill(38), -2);
      due("fill(39)", y.fill(39), 0);
    });
    edge("THE CROSS: all is anew without it: PRICE, FILLS, and how many PRICES KEY 0 leaves", () -> {
      OpenCross x = new OpenCross();
      buy(x, LIMIT, 10, 100);
      sell(x, LIMIT, 12, 95);
      wants(x, 0, 5, 99, 2);
      result(x, 99, 12, 3, 2, 1, 0, 5);
      fills(x, 10, 12, 2);
      x.back();
      wants(x, 0, 5, 99, 3);
      result(x, 95, 10, -2, 2, 2, 1, 6);
      fills(x, 10, 10, -2);
    });
    edge("THE CROSS: LEAST of MARKET, EVEN, HIDDEN, ICE ones counts, too", () -> {
      for (int kind = MARKET; kind <= EVEN; kind++) {
        OpenCross x = new OpenCross();
        sell(x, LIMIT, 4, 100);
        x.told(0, kind, 9, 100, 3, 5, 0);
        fills(x, 0, -2);
        x.back();
        x.told(0, kind, 9, 100, 3, 4, 0);
        fills(x, 4, 4);
      }
    });
    edge("THE CROSS: LEAST is held against what all SLICES of an ICE have together", () -> {
      OpenCross x = new OpenCross();
      sell(x, LIMIT, 6, 100);
      x.told(0, ICE, 9, 100, 2, 6, 0);
      fills(x, 6, 6);
    });
  }

  private static void tradesInTurn() {
    edge("TRADES: none without a PRICE", () -> {
      trades(new OpenCross());
      OpenCross x = new OpenCross();
      buy(x, LIMIT, 5, 9);
      trades(x);
    });
    edge("TRADES: each as many as both have left", () -> {
      OpenCross x = new OpenCross();
      buy(x, LIMIT, 5, 100);
      buy(x, LIMIT, 5, 100);
      sell(x, LIMIT, 3, 100);
      sell(x, LIMIT, 4, 100);
      trades(x, 0, 2, 3, 0, 3, 2, 1, 3, 2);
    });
    edge("TRADES: of one with many", () -> {
      for (int side = 0; side < 2; side++) {
        OpenCross x = new OpenCross();
        x.told(side, LIMIT, 9, 100, 0, 0, 0);
        for (int k = 1; k <= 3; k++) x.told(1 - side, LIMIT, 1 + k, 100, 0, 0, 0);
        if (side == 0) trades(x, 0, 1, 2, 0, 2, 3, 0, 3, 4);
        else trades(x, 1, 0, 2, 2, 0, 3, 3, 0, 4);
      }
    });
    edge("TRADES: where both end at once, both go on", () -> {
      OpenCross x = new OpenCross();
      buy(x, LIMIT, 5, 100);
      buy(x, LIMIT, 6, 100);
      sell(x, LIMIT, 5, 100);
      sell(x, LIMIT, 6, 100);
      trades(x, 0, 2, 5, 1, 3, 6);
    });
    edge("TRADES: of SLICES: two of an ICE are two, though with the same other one", () -> {
      OpenCross x = new OpenCross();
      x.told(0, ICE, 5, 100, 2, 0, 0);
      sell(x, LIMIT, 5, 100);
      trades(x, 0, 1, 2, 0, 1, 3);
    });
    edge("TRADES: a SLICE that is filled in part trades that part alone", () -> {
      OpenCross x = new OpenCross();
      buy(x, LIMIT, 9, 100);
      buy(x, LIMIT, 9, 100);
      sell(x, LIMIT, 10, 100);
      trades(x, 0, 2, 9, 1, 2, 1);
    });
    edge("TRADES: the most that there can be", () -> {
      OpenCross x = new OpenCross();
      for (int k = 0; k < 20; k++) x.told(0, ICE, 4, 50, 2, 0, 0);
      for (int k = 0; k < 20; k++) x.told(1, ICE, k == 0 ? 3 : k == 19 ? 5 : 4, 50, k == 0 ? 1 : 2, 0, 0);
      due("trade(-1, 0)", x.trade(-1, 0), 79);
      due("trade(0, 2)", x.trade(0, 2), 1);
      due("trade(77, 2)", x.trade(77, 2), 1);
      due("trade(78, 0)", x.trade(78, 0), 19);
      due("trade(78, 1)", x.trade(78, 1), 39);
      due("trade(78, 2)", x.trade(78, 2), 2);
      due("trade(79, 0)", x.trade(79, 0), -1);
    });
  }

  private static void notice() {
    edge("NOTICE: no HIDDEN ones", () -> {
      OpenCross x = new OpenCross();
      buy(x, LIMIT, 5, 100);
      sell(x, HIDDEN, 5, 100);
      due("crossed(1)", x.crossed(1), 5);
      due("notice(0)", x.notice(0), -1);
      due("notice(1)", x.notice(1), 0);
      due("notice(2)", x.notice(2), 0);
      due("notice(3)", x.notice(3), 0);
      due("notice(6)", x.notice(6), 0);
    });
    edge("NOTICE: an ICE of the QUANTITY that it SHOWS, one that SHOWS all, too", () -> {
      OpenCross x = new OpenCross();
      x.told(0, ICE, 9, 100, 1, 0, 0);
      sell(x, LIMIT, 9, 100);
      due("notice(1)", x.notice(1), 1);
      due("notice(2)", x.notice(2), -8);
      x.told(0, ICE, 7, 100, 7, 0, 0);
      due("notice(1)", x.notice(1), 8);
      due("notice(2)", x.notice(2), -1);
    });
    edge("NOTICE: no LEAST", () -> {
      OpenCross x = new OpenCross();
      wants(x, 0, 9, 100, 9);
      sell(x, LIMIT, 1, 100);
      due("crossed(0)", x.crossed(0), -1);
      due("notice(0)", x.notice(0), 100);
      due("notice(1)", x.notice(1), 1);
    });
    edge("NOTICE: MARKET and EVEN ones are SHOWN", () -> {
      OpenCross x = new OpenCross();
      buy(x, MARKET, 9, 0);
      sell(x, EVEN, 7, 100);
      due("notice(1)", x.notice(1), 7);
      due("notice(2)", x.notice(2), 2);
      due("notice(6)", x.notice(6), 900);
    });
    edge("NOTICE: (not GONE), of COLLAR", () -> {
      OpenCross x = four();
      x.gone(1);
      x.collar(99, 100);
      due("notice(0)", x.notice(0), 99);
      due("notice(3)", x.notice(3), 2);
      due("notice(6)", x.notice(6), 2);
    });
  }

  private static void frozen() {
    edge("FROZEN: an ORDER may come if REST is no greater: as great", () -> {
      OpenCross x = four();
      x.freeze();
      due("told", buy(x, LIMIT, 9, 98), 4);
      due("crossed(2)", x.crossed(2), 150);
    });
    edge("FROZEN: an ORDER may come if REST is no greater: greater by one", () -> {
      OpenCross x = four();
      x.freeze();
      unchanged("told", x, () -> due("told", buy(x, LIMIT, 1, 100), -1));
    });
    edge("FROZEN: an ORDER may come: its sign left out", () -> {
      OpenCross x = new OpenCross();
      buy(x, LIMIT, 10, 100);
      sell(x, LIMIT, 5, 100);
      x.freeze();
      due("told: 5 to -6", sell(x, LIMIT, 11, 100), -1);
      due("told: 5 to -5", sell(x, LIMIT, 10, 100), 2);
      due("crossed(2)", x.crossed(2), -5);
      due("told: -5 to 6", buy(x, LIMIT, 11, 100), -1);
      due("told: -5 to 5", buy(x, LIMIT, 10, 100), 3);
      due("crossed(2)", x.crossed(2), 5);
    });
    edge("FROZEN: REST is 0, if there is no PRICE: ahead of it", () -> {
      OpenCross x = new OpenCross();
      buy(x, LIMIT, 9, 100);
      x.freeze();
      due("told, still none", buy(x, LIMIT, 9, 99), 1);
      due("told that leaves some", sell(x, LIMIT, 8, 100), -1);
      due("told that leaves none", sell(x, LIMIT, 9, 100), 2);
    });
    edge("FROZEN: REST is 0, if there is no PRICE: behind it", () -> {
      OpenCross x = four();
      x.freeze();
      due("gone: no price at all", x.gone(2), 150);
      due("crossed(0)", x.crossed(0), 101);
      OpenCross y = new OpenCross();
      buy(y, LIMIT, 9, 100);
      sell(y, LIMIT, 9, 100);
      y.freeze();
      due("gone(0)", y.gone(0), 9);
      due("crossed(0)", y.crossed(0), -1);
    });
    edge("FROZEN: an ORDER may go only if REST is no greater", () -> {
      OpenCross x = new OpenCross();
      buy(x, LIMIT, 10, 100);
      sell(x, LIMIT, 5, 100);
      sell(x, LIMIT, 1, 100);
      sell(x, LIMIT, 9, 200);
      buy(x, LIMIT, 1, 100);
      x.freeze();
      unchanged("gone(2)", x, () -> due("gone(2): 5 to 6", x.gone(2), -1));
      due("gone(3): 5 to 5", x.gone(3), 9);
      due("gone(4): 5 to 4", x.gone(4), 1);
    });
    edge("FROZEN: an ORDER may be less only if REST is no greater", () -> {
      OpenCross x = new OpenCross();
      buy(x, LIMIT, 10, 100);
      sell(x, LIMIT, 5, 100);
      sell(x, LIMIT, 9, 200);
      x.freeze();
      unchanged("less(1, 4)", x, () -> due("less(1, 4): 5 to 6", x.less(1, 4), -1));
      due("less(2, 1): 5 to 5", x.less(2, 1), 9);
      due("less(0, 1): 5 to -4", x.less(0, 1), 10);
      due("less(1, 4): -4 to -3", x.less(1, 4), 5);
    });
    edge("FROZEN: by REST of THE CROSS, those that are OUT left out", () -> {
      OpenCross x = four();
      x.freeze();
      due("told of one that is out", wants(x, 0, 500, 101, 500), 4);
      due("fill(4)", x.fill(4), -2);
      due("crossed(2)", x.crossed(2), 150);
    });
    edge("FROZEN: what is refused is no ACT", () -> {
      OpenCross x = new OpenCross();
      buy(x, LIMIT, 10, 100);
      sell(x, LIMIT, 5, 100);
      sell(x, LIMIT, 1, 100);
      x.freeze();
      due("told", buy(x, LIMIT, 1, 100), -1);
      due("gone(2)", x.gone(2), -1);
      due("less(1, 4)", x.less(1, 4), -1);
      due("count(8)", x.count(8), 4);
      due("back()", x.back(), true);
      due("count(1): the freeze is taken back", x.count(1), GATHERING);
    });
    edge("not FROZEN: nothing holds an ORDER back", () -> {
      OpenCross x = four();
      due("told", buy(x, MARKET, 9999, 0), 4);
      due("less", x.less(2, 1), 150);
      due("gone", x.gone(2), 1);
    });
  }

  public static void main(String[] args) {
    willing();
    curves();
    collar();
    keys();
    slicesInTurn();
    fillsInTurn();
    leasts();
    tradesInTurn();
    notice();
    frozen();
    end();
  }
}
