/** The tape and the text (promises 2, 3 and THE TEXT of the terms): each sentence that names an edge has a test of its own. */
public final class OpenCrossTextEdges extends Checks {
  private static final String BUY = "buy market 1";

  /** So many lines, each of twelve bytes, with a ; between two. */
  private static String lines(int many) {
    StringBuilder b = new StringBuilder(BUY);
    for (int k = 1; k < many; k++) b.append(';').append(BUY);
    return b.toString();
  }

  private static String spaced(String text, int length) {
    StringBuilder b = new StringBuilder(text);
    while (b.length() < length) b.append(' ');
    return b.toString();
  }

  /** A text of one line with all that a line can hold, cut behind each of its tokens. */
  private static void cuts(String line, boolean... ends) {
    String cut = "";
    String[] tokens = line.split(" ");
    for (int k = 0; k < tokens.length; k++) {
      cut += (k == 0 ? "" : " ") + tokens[k];
      if (ends[k]) fine(cut, line.startsWith("reference") || line.startsWith("collar") ? 0 : 1);
      else fault(cut, cut.length(), 1);
    }
  }

  private static void feed() {
    edge("2: twenty bytes come behind THE TAPE: how many it has, from empty to full", () -> {
      OpenCross x = new OpenCross();
      due("count(9): empty", x.count(9), 0);
      for (int k = 1; k <= 40; k++) due("feed " + k, x.feed(0, -1, FAR, DEEP, 7), 20 * k);
      due("count(9): full", x.count(9), 800);
    });
    edge("2: NONE if it would have more than 800", () -> {
      OpenCross x = new OpenCross();
      for (int k = 1; k <= 40; k++) x.feed(0, 0, 0, 0, 0);
      due("a 41st feed", x.feed(0, 0, 0, 0, 0), -1);
      due("a 42nd feed", x.feed(FAR, FAR, FAR, FAR, FAR), -1);
    });
    edge("2: and none come, if it would have more than 800", () -> {
      OpenCross x = new OpenCross();
      feedAll(x, spaced(BUY, 799) + " ");
      x.feed(0x3b3b3b3b, 0x3b3b3b3b, 0x3b3b3b3b, 0x3b3b3b3b, 0x3b3b3b3b);
      due("count(9)", x.count(9), 800);
      due("text(801)", x.text(801), -1);
      due("text(800): as it was fed", x.text(800), 1);
    });
    edge("2: of each number the highest byte first", () -> {
      OpenCross x = new OpenCross();
      due("feed", x.feed(0x62757920, 0x6d61726b, 0x65742031, 0x32202020, 0x20202020), 20);
      due("text(20)", x.text(20), 1);
      row(x, 0, 0, MARKET, 12, 0, 0, 0, 0, 0);
    });
    edge("2: five numbers, the first one first", () -> {
      OpenCross x = new OpenCross();
      x.feed(0x20202020, 0x2020200a, 0x0a0a0a0a, 0x0a0a0a21, 0x21212121);
      due("text(20): the first ! is byte 15", x.text(20), -2 - (8 * 15 + 1));
    });
    edge("2: numbers below 0 are bytes from 128 up, which are no blanks and no TOKENS", () -> {
      for (int number : new int[] {-1, DEEP, 0xa0202020, 0xe2757920, 0x8a202020}) {
        OpenCross x = new OpenCross();
        due("feed", x.feed(0x20202020, number, 0, 0, 0), 20);
        due("text(20) of " + number, x.text(20), -2 - (8 * 4 + 1));
      }
    });
    edge("2: behind text() THE TAPE begins anew", () -> {
      OpenCross x = new OpenCross();
      for (int k = 1; k <= 40; k++) x.feed(0, 0, 0, 0, 0);
      x.text(800);
      due("feed", x.feed(0x62757920, 0x6d61726b, 0x65742031, 0x20202020, 0x20202020), 20);
      due("text(20): nothing of before", x.text(20), 1);
    });
    edge("2: feed is no ACT, and comes in any PHASE", () -> {
      OpenCross x = new OpenCross();
      due("feed", x.feed(0, 0, 0, 0, 0), 20);
      due("count(8)", x.count(8), 0);
      x.freeze();
      due("feed, frozen", x.feed(0, 0, 0, 0, 0), 40);
      x.cross();
      due("feed, crossed", x.feed(0, 0, 0, 0, 0), 60);
      due("count(8)", x.count(8), 2);
      x.back();
      x.back();
      due("count(9): what is taken back leaves the tape", x.count(9), 60);
    });
  }

  private static void howMany() {
    edge("3: NONE: it has not so many (THE TAPE stays)", () -> {
      OpenCross x = four();
      due("text(1) of an empty tape", x.text(1), -1);
      feedAll(x, spaced(BUY, 20));
      unchanged("text(21)", x, () -> {
        due("text(21)", x.text(21), -1);
        due("text(801)", x.text(801), -1);
        due("text(far)", x.text(FAR), -1);
      });
      due("text(20): all that it has", x.text(20), 1);
    });
    edge("3: NONE: n is below 0 (THE TAPE stays)", () -> {
      OpenCross x = four();
      due("text(-1) of an empty tape", x.text(-1), -1);
      feedAll(x, spaced(BUY, 20));
      unchanged("text(-1)", x, () -> {
        due("text(-1)", x.text(-1), -1);
        due("text(-20)", x.text(-20), -1);
        due("text(deep)", x.text(DEEP), -1);
      });
      due("text(12)", x.text(12), 1);
    });
    edge("3: n is 0: the empty text ends where a LINE should be", () -> {
      OpenCross x = new OpenCross();
      due("text(0) of an empty tape", x.text(0), -3);
      x.feed(0, 0, 0, 0, 0);
      due("text(0) of a tape with bytes", x.text(0), -3);
      due("count(9)", x.count(9), 0);
    });
    edge("3: THE TAPE is empty then, what stood behind the n bytes, too", () -> {
      OpenCross x = new OpenCross();
      feedAll(x, spaced(BUY, 60));
      due("text(12)", x.text(12), 1);
      due("count(9)", x.count(9), 0);
      due("text(12) again", x.text(12), -1);
    });
    edge("3: THE TAPE is empty behind a FAULT, too", () -> {
      OpenCross x = new OpenCross();
      feedAll(x, spaced("buy market 0", 40));
      due("text(12)", x.text(12), -2 - (8 * 11 + 2));
      due("count(9)", x.count(9), 0);
    });
    edge("3: the first n bytes alone are THE TEXT", () -> {
      OpenCross x = new OpenCross();
      feedAll(x, "buy market 5678;??");
      due("text(12)", x.text(12), 1);
      due("order(0, 2): the whole ends at n", x.order(0, 2), 5);
      feedAll(x, "buy market 5 byby");
      due("text(15)", x.text(15), -2 - (8 * 15 + 1));
      feedAll(x, "reference 5");
      due("text(8): the word ends at n", x.text(8), -3);
    });
    edge("3: how many ORDERS: none", () -> fine("reference 1;collar 1 1", 0));
    edge("3: how many ORDERS: forty", () -> fine(lines(40), 40));
    edge("3: THE TEXT has 800 bytes", () -> {
      String text = spaced(BUY + ";sell even 9999 at 999 least 9999 by", 799) + "7";
      OpenCross x = new OpenCross();
      due("the last byte is a token", read(x, text), 2);
      row(x, 1, 1, EVEN, 9999, 999, 0, 9999, 7, 0);
      due("a fault at the last byte", read(x, spaced(BUY, 799) + "?"), -2 - (8 * 799 + 1));
      due("a fault at the end", read(x, spaced(BUY + ";", 800)), -2 - (8 * 800 + 1));
    });
  }

  private static void whatStays() {
    edge("3: a FAULT: all else stays, ORDERS and PHASE and what can be taken BACK", () -> {
      for (String text : new String[] {"", "reference 7; collar 3 4; sell market 9; buy limit", "reference 7; collar 0 4", BUY + ";reference 5"}) {
        OpenCross x = four();
        x.reference(98);
        x.freeze();
        unchanged("text '" + text + "'", x, () -> due("a fault?", read(x, text) < -2, true));
        due("back()", x.back(), true);
        due("count(1)", x.count(1), GATHERING);
      }
    });
    edge("3: a FAULT, CROSSED: THE CROSS stays as it was, and past()", () -> {
      OpenCross x = four();
      x.cross();
      unchanged("text", x, () -> due("a fault", read(x, "sell market 9;"), -2 - (8 * 14 + 1)));
      due("fill(2)", x.fill(2), 150);
      due("open()", x.open(), 2);
    });
    edge("3: all is as it tells, else as at first: ORDERS, PHASE, REFERENCE, COLLAR", () -> {
      for (int phase = GATHERING; phase <= CROSSED; phase++) {
        OpenCross x = four();
        x.reference(98);
        x.collar(90, 110);
        if (phase == FROZEN) x.freeze();
        if (phase == CROSSED) x.cross();
        x.notice(0);
        due("text", read(x, BUY), 1);
        counts(x, 1, GATHERING, 100, 1, 999, 1, 0, 1000, 0, 0, 0);
        due("order(1, 0)", x.order(1, 0), -1);
        result(x, -1, 0, 0, 0, 1, 0, 0);
      }
    });
    edge("3: all is as it tells, a third time, too: nothing of the ORDERS of the texts before it", () -> {
      OpenCross x = new OpenCross();
      for (int k = 0; k < 2; k++) due("text", read(x, "collar 5 9;reference 7;buy limit 5 at 9 by 3; sell limit 5 at 8 by 3"), 2);
      due("owner(3, 2)", x.owner(3, 2), 5);
      due("text", read(x, "reference 6"), 0);
      counts(x, 0, GATHERING, 6, 1, 999, 0, 0, 1000, 0, 0, 0);
      result(x, -1, 0, 0, 0, 1, 0, 0);
      due("left()", x.left(), 0);
      due("gain()", x.gain(), 0);
      due("owner(3, 2)", x.owner(3, 2), 0);
      due("owner(3, 3)", x.owner(3, 3), 0);
      due("level(0, -1, 0)", x.level(0, -1, 0), 0);
      due("notice(0)", x.notice(0), -1);
      due("swings()", x.swings(), 0);
      due("with", x.with(0, LIMIT, 5, 9), -1);
    });
    edge("3: nothing can be taken BACK", () -> {
      OpenCross x = four();
      read(x, "reference 5");
      due("back()", x.back(), false);
      due("count(2)", x.count(2), 5);
      due("told", buy(x, LIMIT, 1, 1), 0);
      due("back()", x.back(), true);
      due("back()", x.back(), false);
      counts(x, 0, GATHERING, 5);
    });
    edge("3: behind it all goes on, and what is refused or asked changes nothing", () -> {
      OpenCross x = new OpenCross();
      read(x, "buy limit 5 at 9; sell limit 5 at 8");
      x.freeze();
      unchanged("what is refused", x, () -> {
        due("told", sell(x, MARKET, 9, 0), -1);
        due("with", x.with(1, MARKET, 9, 0), 1);
        due("less", x.less(0, 4), -1);
      });
    });
  }

  private static void tokens() {
    edge("THE TEXT: blanks, 32, 10, part TOKENS and mean nothing else", () -> {
      fine("\n \nsell\neven  7 \n at 9\n;\n buy market 5 \n", 2);
      fault("bu y market 5", 0, 1);
      fault("buy market 5 5", 13, 1);
      fault("refe rence 5", 0, 1);
    });
    edge("THE TEXT: no other byte parts TOKENS", () -> {
      for (int sign : new int[] {0, 1, 9, 11, 12, 13, 31, 33, 127, 128, 138, 160, 255}) {
        fault("buy" + (char) sign + "market 5", 3, 1);
        fault("buy market 5" + (char) sign, 12, 1);
        fault((char) sign + "buy market 5", 0, 1);
      }
    });
    edge("THE TEXT: small letters, from a to z alone", () -> {
      for (char sign : new char[] {'`', '{', 'B', '@', '[', 'Z'}) {
        fault(sign + "uy market 5", 0, 1);
        fault("bu" + sign + " market 5", 0, 1);
      }
      fault("buy Market 5", 4, 1);
      fault("buyz market 5", 0, 1);
      fault("abuy market 5", 0, 1);
    });
    edge("THE TEXT: digits, from 0 to 9 alone", () -> {
      for (char sign : new char[] {'/', ':', '-', '+', '.', ','}) {
        fault("buy market " + sign + "5", 11, 1);
        fault("buy market 5" + sign, 12, 1);
      }
      fine("buy market 1023;sell market 4567;buy market 89", 3);
    });
    edge("THE TEXT: WORDS of 1 to 9 letters: nine", () -> fine("reference 5", 0));
    edge("THE TEXT: ten letters are no WORD", () -> {
      fault("referencer 5", 0, 1);
      fault("reference 5; referencereference 5", 13, 1);
      fault("buy abcdefghij", 4, 1);
    });
    edge("THE TEXT: a WORD of one letter is one with which no text goes on", () -> fault("b market 5", 0, 1));
    edge("THE TEXT: WHOLES of 1 to 4 digits: one, four", () -> {
      OpenCross x = new OpenCross();
      due("text", read(x, "buy market 7;sell market 0007;sell market 9999"), 3);
      due("order(0, 2)", x.order(0, 2), 7);
      due("order(1, 2)", x.order(1, 2), 7);
      due("order(2, 2)", x.order(2, 2), 9999);
    });
    edge("THE TEXT: five digits are no WHOLE, whatever they say", () -> {
      fault("buy market 12345", 11, 1);
      fault("buy market 00007", 11, 1);
      fault("buy market 10000", 11, 1);
      fault("buy market 4294967297", 11, 1);
      fault("buy market 5 least 00005", 19, 1);
    });
    edge("THE TEXT: TOKENS of two kinds need no blank between them", () -> {
      OpenCross x = new OpenCross();
      due("text", read(x, "reference5;collar5 6;sell ice20at95shows5least4by3"), 1);
      row(x, 0, 1, ICE, 20, 95, 5, 4, 3, 0);
      counts(x, 1, 0, 5, 5, 6);
      fault("5buy market 5", 0, 1);
    });
    edge("THE TEXT: WORDS without a blank between them are one", () -> {
      fault("buymarket 5", 0, 1);
      fault("buy marketat 5", 4, 1);
    });
  }

  private static void lineForms() {
    edge("THE TEXT: LINE {; LINE}: a single ; between two", () -> {
      fine(BUY + ";" + BUY, 2);
      fault(BUY + ";;" + BUY, 13, 1);
      fault(BUY + "; ;" + BUY, 14, 1);
      fault(BUY + " " + BUY, 13, 1);
    });
    edge("THE TEXT: no ; ahead of the first LINE, none behind the last", () -> {
      fault(";" + BUY, 0, 1);
      fault(";", 0, 1);
      fault(BUY + ";", 13, 1);
      fault(BUY + "; \n", 15, 1);
    });
    edge("THE TEXT: at least one LINE (the end: its place)", () -> {
      fault("", 0, 1);
      fault(" ", 1, 1);
      fault(" \n  ", 4, 1);
    });
    edge("FAULTS: 1 FORM: (the end: its place), behind each TOKEN of a LINE", () -> {
      cuts("reference 5", false, true);
      cuts("collar 5 6", false, false, true);
      cuts("buy market 5 least 5 by 0", false, false, true, false, true, false, true);
      cuts("sell market 5 by 7", false, false, true, false, true);
      for (String kind : new String[] {"limit", "hidden", "even"}) {
        cuts("buy " + kind + " 5 at 9 least 5 by 0", false, false, false, false, true, false, true, false, true);
        cuts("sell " + kind + " 5 at 9 by 7", false, false, false, false, true, false, true);
      }
      cuts("sell ice 5 at 9 shows 5 least 0 by 1", false, false, false, false, false, false, true, false, true, false, true);
    });
    edge("FAULTS: 1 FORM: (the end: its place), behind blanks", () -> {
      fault("buy  ", 5, 1);
      fault("buy market\n\n", 12, 1);
    });
    edge("FAULTS: 1 FORM: a WORD where a WHOLE is due", () -> {
      fault("reference five", 10, 1);
      fault("collar low 5", 7, 1);
      fault("collar 5 high", 9, 1);
      fault("buy market five", 11, 1);
      fault("buy limit 5 at nine", 15, 1);
      fault("buy ice 5 at 9 shows all", 21, 1);
      fault("buy market 5 least all", 19, 1);
      fault("buy market 5 by me", 16, 1);
    });
    edge("FAULTS: 1 FORM: a WHOLE where a WORD is due", () -> {
      fault("5", 0, 1);
      fault("buy 5", 4, 1);
      fault("buy limit 5 9", 12, 1);
      fault("buy ice 5 at 9 5", 15, 1);
      fault("reference 5 5", 12, 1);
      fault("collar 5 6 7", 11, 1);
    });
    edge("FAULTS: 1 FORM: a ; where a LINE can not end", () -> {
      fault("buy;" + BUY, 3, 1);
      fault("buy limit 5;" + BUY, 11, 1);
      fault("buy ice 5 at 9;" + BUY, 14, 1);
      fault("reference;" + BUY, 9, 1);
      fault("collar 5;" + BUY, 8, 1);
      fault("buy market 5 least;" + BUY, 18, 1);
    });
    edge("FAULTS: 1 FORM: another WORD than those", () -> {
      fault("bought market 5", 0, 1);
      fault("guy market 5", 0, 1);
      fault("buz market 5", 0, 1);
      fault("sel market 5", 0, 1);
      fault("buy sell 5", 4, 1);
      fault("buy shown 5 at 9", 4, 1);
      fault("buy limit 5 for 9", 12, 1);
      fault("buy limit 5 at 9 from 1", 17, 1);
    });
    edge("THE TEXT: buy, sell and each KIND, by its WORD", () -> {
      OpenCross x = new OpenCross();
      String[] kinds = {"market 1", "limit 2 at 9", "hidden 3 at 9", "ice 4 at 9 shows 1", "even 5 at 9"};
      StringBuilder b = new StringBuilder("reference 5");
      for (int k = 0; k < 5; k++) b.append(";buy ").append(kinds[k]).append(";sell ").append(kinds[k]);
      due("text", read(x, b.toString()), 10);
      for (int k = 0; k < 10; k++) row(x, k, k % 2, k / 2, k / 2 + 1, k / 2 == MARKET ? 0 : 9, k / 2 == ICE ? 1 : 0, 0, 0, 0);
    });
    edge("THE TEXT: MARKET has no PRICE", () -> fault("buy market 5 at 9", 13, 1));
    edge("THE TEXT: an ICE alone has SHOWS, and has it always", () -> {
      for (String kind : new String[] {"limit 5 at 9", "hidden 5 at 9", "even 5 at 9", "market 5"}) fault("buy " + kind + " shows 2", kind.length() + 5, 1);
      fault("buy ice 5 at 9 by 1", 15, 1);
      fault("buy ice 5 at 9 least 1", 15, 1);
      fault("buy ice 5 shows 2 at 9", 10, 1);
    });
    edge("THE TEXT: then, as one likes, least, then, as one likes, by: once, in that order", () -> {
      fault("buy market 5 by 1 least 1", 18, 1);
      fault("buy market 5 by 1 by 1", 18, 1);
      fault("buy market 5 least 1 least 1", 21, 1);
      fault("buy limit 5 least 2 at 9", 12, 1);
    });
    edge("THE TEXT: OWNER is 0 without by, LEAST 0 without least", () -> {
      OpenCross x = new OpenCross();
      read(x, "sell limit 5 at 9 least 5 by 7;buy limit 6 at 8");
      row(x, 0, 1, LIMIT, 5, 9, 0, 5, 7, 0);
      row(x, 1, 0, LIMIT, 6, 8, 0, 0, 0, 0);
    });
  }

  private static void bounds() {
    edge("FAULTS: 2 REFERENCE, 1 to 999", () -> {
      fault("reference 0", 10, 2);
      fine("reference 1", 0);
      fine("reference 999", 0);
      fault("reference 1000", 10, 2);
    });
    edge("FAULTS: 2 COLLAR's low, 1 to 999, at it", () -> {
      fault("collar 0 5", 7, 2);
      fault("collar 0 0", 7, 2);
      fine("collar 1 5", 0);
      fine("collar 999 999", 0);
      fault("collar 1000 5", 7, 2);
    });
    edge("FAULTS: 2 COLLAR's high, to 999, at it", () -> {
      fine("collar 5 999", 0);
      fault("collar 5 1000", 9, 2);
      fault("collar 5 0", 9, 2);
    });
    edge("FAULTS: 2 low above high, at high", () -> {
      fault("collar 6 5", 9, 2);
      fine("collar 5 5", 0);
      fault("collar 999 998", 11, 2);
    });
    edge("FAULTS: 2 QUANTITY, 1 to 9999", () -> {
      String[] kinds = {"market", "limit", "hidden", "even", "ice"};
      for (String kind : kinds) fault("sell " + kind + " 0 at 9", 6 + kind.length(), 2);
      fault("buy market 0000", 11, 2);
      fine("buy market 1", 1);
      fine("buy market 9999", 1);
    });
    edge("FAULTS: 2 PRICE, 1 to 999", () -> {
      for (String kind : new String[] {"limit", "hidden", "even"}) {
        String ahead = "sell " + kind + " 5 at ";
        fault(ahead + "0", ahead.length(), 2);
        fine(ahead + "1", 1);
        fine(ahead + "999", 1);
        fault(ahead + "1000", ahead.length(), 2);
      }
      fault("buy ice 5 at 0 shows 5", 13, 2);
      fault("buy ice 5 at 1000 shows 5", 13, 2);
    });
    edge("FAULTS: 2 SHOWS, 1 to QUANTITY", () -> {
      fault("buy ice 5 at 9 shows 0", 21, 2);
      fine("buy ice 5 at 9 shows 1", 1);
      fine("buy ice 5 at 9 shows 5", 1);
      fault("buy ice 5 at 9 shows 6", 21, 2);
    });
    edge("FAULTS: 2 LEAST, 0 to QUANTITY", () -> {
      fine("buy market 5 least 0", 1);
      fine("buy market 5 least 5", 1);
      fault("buy market 5 least 6", 19, 2);
      fine("buy ice 5 at 9 shows 1 least 5", 1);
      fault("buy ice 5 at 9 shows 1 least 6", 29, 2);
    });
    edge("FAULTS: 2 OWNER, 0 to 7", () -> {
      fine("buy market 5 by 0", 1);
      fine("buy market 5 by 7", 1);
      fault("buy market 5 by 8", 16, 2);
      fault("buy market 5 least 1 by 9999", 24, 2);
    });
  }

  private static void twiceOrLate() {
    edge("FAULTS: 3 reference a second time, at that WORD", () -> {
      fault("reference 5;reference 5", 12, 3);
      fault("reference 5;collar 1 5; reference", 24, 3);
    });
    edge("FAULTS: 3 collar a second time, at that WORD", () -> {
      fault("collar 1 5;collar 1 5", 11, 3);
      fault("collar 1 5;reference 5;collar", 23, 3);
    });
    edge("FAULTS: 3 reference behind an ORDER, at that WORD", () -> {
      fault(BUY + ";reference 5", 13, 3);
      fault("collar 1 5;" + BUY + ";\nreference 5", 25, 3);
    });
    edge("FAULTS: 3 collar behind an ORDER, at that WORD", () -> {
      fault(BUY + ";collar 1 5", 13, 3);
      fault("reference 5;" + BUY + ";collar", 25, 3);
    });
    edge("THE TEXT: reference and collar once each, whichever is first", () -> {
      fine("reference 5;collar 1 5;" + BUY, 1);
      fine("collar 1 5;reference 5;" + BUY, 1);
    });
    edge("THE TEXT: once each in one text; the next one has its own", () -> {
      OpenCross x = new OpenCross();
      due("text", read(x, "reference 5;collar 1 5"), 0);
      due("text", read(x, "reference 6;collar 2 6"), 0);
      counts(x, 0, 0, 6, 2, 6);
      due("text", read(x, "reference 5;reference 5"), -2 - (8 * 12 + 3));
      due("text", read(x, "reference 7"), 0);
    });
    edge("FAULTS: 4 a 41st ORDER, at its first WORD", () -> {
      fine(lines(40), 40);
      fault(lines(41), 520, 4);
      fault(lines(40) + "; sell even 3 at 9", 521, 4);
      fault(lines(40) + ";sell", 520, 4);
    });
    edge("FAULTS: 4 counts ORDERS, not LINES", () -> {
      fine("reference 5;collar 1 5;" + lines(40), 40);
      fault("reference 5;collar 1 5;" + lines(41), 543, 4);
    });
    edge("FAULTS: 4 the ORDERS that there were do not count", () -> {
      OpenCross x = forty();
      due("text", read(x, lines(40)), 40);
    });
  }

  private static void whichFirst() {
    edge("FAULTS: the first that is met from the left", () -> {
      fault("buy market 0 at x", 11, 2);
      fault("buy market 5?;buy market 0", 12, 1);
      fault("buy market x;reference 0", 11, 1);
      fault(BUY + ";reference 0;?", 13, 3);
      fault("reference 0;reference 5", 10, 2);
      fault(lines(40) + ";buy market 0", 520, 4);
      fault("collar 0 1000", 7, 2);
      fault("buy ice 5 at 0 shows 6 least 6 by 8", 13, 2);
      fault("buy ice 5 at 9 shows 6 least 6 by 8", 21, 2);
      fault("buy ice 5 at 9 shows 5 least 6 by 8", 29, 2);
    });
    edge("FAULTS: of one place the least number: FORM ahead of a WHOLE out of bounds", () -> {
      fault("buy 0", 4, 1);
      fault("reference 5 1000", 12, 1);
      fault("buy market 99999", 11, 1);
    });
    edge("FAULTS: of one place the least number: FORM ahead of reference, collar a second time or late", () -> {
      fault("reference 5 reference 5", 12, 1);
      fault("collar 1 5 collar 1 5", 11, 1);
      fault(BUY + " reference 5", 13, 1);
    });
    edge("FAULTS: of one place the least number: FORM ahead of a 41st ORDER", () -> {
      fault(lines(40) + " buy market 1", 520, 1);
      fault(lines(40) + ";sold", 520, 1);
      fault(lines(40) + ";", 520, 1);
      fault(lines(40) + ";reference", 520, 3);
    });
  }

  public static void main(String[] args) {
    feed();
    howMany();
    whatStays();
    tokens();
    lineForms();
    bounds();
    twiceOrLate();
    whichFirst();
    end();
  }
}
