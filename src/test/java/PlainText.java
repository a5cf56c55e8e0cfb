import java.util.ArrayList;
import java.util.List;
import java.util.regex.Matcher;
import java.util.regex.Pattern;

/** The reading of a text said again, by another way than the program's: tokens first, lines by pattern. */
final class PlainText {
  final PlainModel.State state = new PlainModel.State();
  /** 8 * place + kind, -1 without a fault. */
  int fault = -1;

  private static final String[] LINES = {
    "reference #", "collar # #",
    "D market #", "D market # least #", "D market # by #", "D market # least # by #",
    "D K # at #", "D K # at # least #", "D K # at # by #", "D K # at # least # by #",
    "D ice # at # shows #", "D ice # at # shows # least #", "D ice # at # shows # by #",
    "D ice # at # shows # least # by #",
  };

  private final List<String> line = new ArrayList<>();
  private final List<Integer> places = new ArrayList<>();
  private boolean reference, collar;

  PlainText(String text) {
    Matcher m = Pattern.compile("[a-z]+|[0-9]+|;|[ \n]+|.", Pattern.DOTALL).matcher(text);
    while (fault < 0 && m.find()) {
      String t = m.group();
      if (t.isBlank() && t.matches("[ \n]+")) continue;
      token(t, m.start());
    }
    if (fault < 0 && !whole()) fault = 8 * text.length() + 1;
    if (fault < 0) finish();
  }

  private void token(String t, int place) {
    if (t.equals(";")) {
      if (!whole()) { fault = 8 * place + 1; return; }
      finish();
      return;
    }
    line.add(t);
    places.add(place);
    if (!t.matches("[a-z]{1,9}|[0-9]{1,4}") || !goesOn()) { fault = 8 * place + 1; return; }
    if (line.size() == 1) {
      boolean terms = t.equals("reference") || t.equals("collar");
      if (terms && (!state.orders.isEmpty() || (t.equals("reference") ? reference : collar))) fault = 8 * place + 3;
      if (!terms && state.orders.size() == 40) fault = 8 * place + 4;
    }
    if (Character.isDigit(t.charAt(0)) && !bounded(Integer.parseInt(t))) fault = 8 * place + 2;
  }

  private String shape() {
    StringBuilder b = new StringBuilder();
    for (int i = 0; i < line.size(); i++) {
      String t = line.get(i);
      if (t.matches("[0-9]+")) t = "#";
      else if (i == 0 && (t.equals("buy") || t.equals("sell"))) t = "D";
      else if (i == 1 && (t.equals("limit") || t.equals("hidden") || t.equals("even"))) t = "K";
      b.append(i == 0 ? "" : " ").append(t);
    }
    return b.toString();
  }

  private boolean goesOn() {
    for (String l : LINES) if ((l + " ").startsWith(shape() + " ")) return true;
    return false;
  }

  private boolean whole() {
    for (String l : LINES) if (l.equals(shape())) return true;
    return false;
  }

  private int number(String behind, int otherwise) {
    int i = line.indexOf(behind);
    return i < 0 || i + 1 >= line.size() ? otherwise : Integer.parseInt(line.get(i + 1));
  }

  private boolean bounded(int x) {
    String ahead = line.get(line.size() - 2);
    int quantity = line.size() > 3 && !line.get(0).equals("collar") ? Integer.parseInt(line.get(2)) : 0;
    switch (ahead) {
      case "reference": case "collar": case "at": return x >= 1 && x <= 999;
      case "shows": return x >= 1 && x <= quantity;
      case "least": return x <= quantity;
      case "by": return x <= 7;
      case "market": case "limit": case "hidden": case "even": case "ice": return x >= 1;
      default: return x >= Integer.parseInt(ahead) && x <= 999;
    }
  }

  private void finish() {
    if (line.get(0).equals("reference")) { reference = true; state.reference = number("reference", 0); }
    else if (line.get(0).equals("collar")) {
      collar = true;
      state.low = number("collar", 0);
      state.high = Integer.parseInt(line.get(2));
    } else {
      int kind = List.of("market", "limit", "hidden", "ice", "even").indexOf(line.get(1));
      state.orders.add(PlainModel.make(state.orders.size(), line.get(0).equals("buy") ? 0 : 1, kind,
          Integer.parseInt(line.get(2)), number("at", 0), number("shows", 0), number("least", 0), number("by", 0)));
    }
    line.clear();
    places.clear();
  }
}
