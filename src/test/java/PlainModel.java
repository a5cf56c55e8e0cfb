import java.util.ArrayDeque;
import java.util.ArrayList;
import java.util.Comparator;
import java.util.Deque;
import java.util.List;
import java.util.NoSuchElementException;

/** The document said again as plainly as can be, price by price and copy by copy, to hold the program against. */
final class PlainModel {
  /** An order, or what a question makes of it. */
  static final class Order {
    int number, side, kind, quantity, price, shows, least, owner;
    boolean gone;

    Order copy() {
      Order o = new Order();
      o.number = number; o.side = side; o.kind = kind; o.quantity = quantity; o.price = price;
      o.shows = shows; o.least = least; o.owner = owner; o.gone = gone;
      return o;
    }

    boolean willing(int p) { return !gone && (kind == 0 || (side == 0 ? price >= p : price <= p)); }
  }

  static final class Slice {
    final Order order; final int many; final boolean shown;
    Slice(Order order, int many, boolean shown) { this.order = order; this.many = many; this.shown = shown; }
  }

  static final class State {
    List<Order> orders = new ArrayList<>();
    int phase = 0, reference = 100, low = 1, high = 999;
    Outcome done;

    State copy() {
      State s = new State();
      for (Order o : orders) s.orders.add(o.copy());
      s.phase = phase; s.reference = reference; s.low = low; s.high = high; s.done = done;
      return s;
    }
  }

  static final class Outcome {
    int price = -1, volume, rest, key, rounds, widest, left;
    long gain;
    List<Integer> outs = new ArrayList<>();
    int[] fills = new int[41];
    List<int[]> trades = new ArrayList<>();
    int[] owners = new int[41];
  }

  State now = new State();
  final Deque<State> acts = new ArrayDeque<>();
  final List<int[]> past = new ArrayList<>();
  final StringBuilder tape = new StringBuilder();

  // ---- the curve

  static int[] at(List<Order> orders, int p) {
    int[] plain = new int[2];
    int[] even = new int[2];
    for (Order o : orders) {
      if (o.willing(p)) (o.kind == 4 ? even : plain)[o.side] += o.quantity;
    }
    int over = plain[0] - plain[1];
    int help = over > 0 ? Math.min(even[1], over) : over < 0 ? Math.min(even[0], -over) : 0;
    int volume = Math.min(plain[0], plain[1]) + help;
    int rest = Integer.signum(over) * (Math.abs(over) - help);
    return new int[] {plain[0], plain[1], over, help, volume, rest};
  }

  static void price(State s, List<Order> orders, Outcome to) {
    to.price = -1; to.volume = 0; to.rest = 0; to.key = 0; to.widest = 0;
    int[][] of = new int[1000][];
    List<Integer> left = new ArrayList<>();
    for (int p = s.low; p <= s.high; p++) {
      of[p] = at(orders, p);
      to.volume = Math.max(to.volume, of[p][4]);
      left.add(p);
    }
    if (to.volume == 0) return;
    left.removeIf(p -> of[p][4] < to.volume);
    to.widest = left.size();
    to.key = 0;
    if (left.size() > 1) {
      to.key = 1;
      int least = left.stream().mapToInt(p -> Math.abs(of[p][5])).min().getAsInt();
      left.removeIf(p -> Math.abs(of[p][5]) > least);
    }
    if (left.size() > 1) {
      if (left.stream().allMatch(p -> of[p][5] > 0)) { to.key = 2; left = List.of(left.get(left.size() - 1)); }
      else if (left.stream().allMatch(p -> of[p][5] < 0)) { to.key = 2; left = List.of(left.get(0)); }
    }
    if (left.size() > 1) {
      to.key = 3;
      int best = -1;
      for (int p : left) if (best < 0 || Math.abs(p - s.reference) <= Math.abs(best - s.reference)) best = p;
      left = List.of(best);
    }
    to.price = left.get(0);
    to.rest = of[to.price][5];
  }

  static List<Slice> slices(List<Order> orders, int side, int p) {
    List<Slice> all = new ArrayList<>();
    for (Order o : orders) {
      if (o.side != side || !o.willing(p)) continue;
      if (o.kind == 3) {
        all.add(new Slice(o, o.shows, true));
        if (o.quantity > o.shows) all.add(new Slice(o, o.quantity - o.shows, false));
      } else {
        all.add(new Slice(o, o.quantity, o.kind != 2));
      }
    }
    Comparator<Slice> turn = Comparator.comparing((Slice x) -> x.order.kind == 4);
    turn = turn.thenComparing(x -> x.order.kind != 0);
    turn = turn.thenComparing(x -> side == 0 ? -x.order.price : x.order.price);
    turn = turn.thenComparing(x -> !x.shown);
    turn = turn.thenComparing(x -> x.order.number);
    all.sort(turn);
    return all;
  }

  /** What of each slice is filled. */
  static List<Integer> parts(List<Slice> slices, int volume) {
    List<Integer> parts = new ArrayList<>();
    for (Slice s : slices) {
      int part = Math.min(volume, s.many);
      parts.add(part);
      volume -= part;
    }
    return parts;
  }

  static Outcome cross(State s, List<Order> all) {
    Outcome r = new Outcome();
    List<Order> orders = new ArrayList<>();
    for (Order o : all) {
      r.owners[o.number] = o.owner;
      r.fills[o.number] = o.gone ? -1 : 0;
      if (!o.gone) orders.add(o.copy());
    }
    List<Slice> buys, sells;
    while (true) {
      r.rounds++;
      price(s, orders, r);
      for (Order o : orders) r.fills[o.number] = 0;
      buys = r.price < 0 ? new ArrayList<>() : slices(orders, 0, r.price);
      sells = r.price < 0 ? new ArrayList<>() : slices(orders, 1, r.price);
      List<Integer> bought = parts(buys, r.volume), sold = parts(sells, r.volume);
      for (int i = 0; i < buys.size(); i++) r.fills[buys.get(i).order.number] += bought.get(i);
      for (int i = 0; i < sells.size(); i++) r.fills[sells.get(i).order.number] += sold.get(i);
      Order out = null;
      for (Order o : orders) if (r.fills[o.number] > 0 && r.fills[o.number] < o.least) out = o;
      if (out == null) {
        trades(r, buys, bought, sells, sold);
        break;
      }
      orders.remove(out);
      r.outs.add(out.number);
      r.fills[out.number] = -2;
    }
    for (Order o : orders) {
      if (o.kind != 0 && r.price > 0) r.gain += (long) r.fills[o.number] * Math.abs(r.price - o.price);
    }
    orders.removeIf(o -> o.kind == 0 || o.kind == 4);
    for (Order o : orders) o.quantity -= r.fills[o.number];
    for (int p = s.low; p <= s.high; p++) r.left = Math.max(r.left, at(orders, p)[4]);
    return r;
  }

  /** Share by share: each pair of slices that meets for some shares in a row is one trade. */
  static void trades(Outcome r, List<Slice> buys, List<Integer> bought, List<Slice> sells, List<Integer> sold) {
    int[] buyer = line(bought, r.volume), seller = line(sold, r.volume);
    for (int k = 0; k < r.volume; k++) {
      if (k > 0 && buyer[k] == buyer[k - 1] && seller[k] == seller[k - 1]) r.trades.get(r.trades.size() - 1)[2]++;
      else r.trades.add(new int[] {buys.get(buyer[k]).order.number, sells.get(seller[k]).order.number, 1});
    }
  }

  static int[] line(List<Integer> parts, int volume) {
    int[] line = new int[volume];
    int at = 0;
    for (int i = 0; i < parts.size(); i++) for (int k = 0; k < parts.get(i); k++) line[at++] = i;
    return line;
  }

  Outcome outcome() { return now.phase == 2 ? now.done : cross(now, now.orders); }

  // ---- the text

  int feed(int... numbers) {
    if (tape.length() > 780) return -1;
    for (int n : numbers) for (int k = 3; k >= 0; k--) tape.append((char) ((n >> (8 * k)) & 255));
    return tape.length();
  }

  int text(int n) {
    if (n < 0 || n > tape.length()) return -1;
    PlainText t = new PlainText(tape.substring(0, n));
    tape.setLength(0);
    if (t.fault >= 0) return -2 - t.fault;
    now = t.state;
    acts.clear();
    past.clear();
    return now.orders.size();
  }

  // ---- acts

  static boolean in(int x, int low, int high) { return low <= x && x <= high; }

  Order stands(int i) { return in(i, 0, now.orders.size() - 1) && !now.orders.get(i).gone ? now.orders.get(i) : null; }

  static Order make(int number, int side, int kind, int quantity, int price, int shows, int least, int owner) {
    if (!in(side, 0, 1) || !in(kind, 0, 4) || !in(quantity, 1, 9999) || !in(least, 0, quantity) || !in(owner, 0, 7)) return null;
    if (kind != 0 && !in(price, 1, 999)) return null;
    if (kind == 3 && !in(shows, 1, quantity)) return null;
    Order o = new Order();
    o.number = number; o.side = side; o.kind = kind; o.quantity = quantity; o.price = kind == 0 ? 0 : price;
    o.shows = kind == 3 ? shows : 0; o.least = least; o.owner = owner;
    return o;
  }

  boolean act(State next) {
    if (now.phase == 1 && next.phase == 1 && Math.abs(cross(next, next.orders).rest) > Math.abs(cross(now, now.orders).rest)) return false;
    acts.push(now);
    while (acts.size() > 12) acts.removeLast();
    now = next;
    return true;
  }

  int told(int side, int kind, int quantity, int price, int shows, int least, int owner) {
    Order o = make(now.orders.size(), side, kind, quantity, price, shows, least, owner);
    if (o == null || now.phase == 2 || now.orders.size() == 40) return -1;
    State s = now.copy();
    s.orders.add(o);
    return act(s) ? o.number : -1;
  }

  int gone(int i) {
    if (stands(i) == null || now.phase == 2) return -1;
    State s = now.copy();
    s.orders.get(i).gone = true;
    return act(s) ? s.orders.get(i).quantity : -1;
  }

  static void lower(Order o, int quantity) {
    o.quantity = quantity;
    o.shows = Math.min(o.shows, quantity);
    o.least = Math.min(o.least, quantity);
  }

  int less(int i, int quantity) {
    Order o = stands(i);
    if (o == null || now.phase == 2 || quantity < 1 || quantity >= o.quantity) return -1;
    State s = now.copy();
    lower(s.orders.get(i), quantity);
    return act(s) ? o.quantity : -1;
  }

  boolean freeze() {
    if (now.phase != 0) return false;
    State s = now.copy();
    s.phase = 1;
    return act(s);
  }

  int cross() {
    if (now.phase == 2) return -1;
    State s = now.copy();
    s.done = cross(now, now.orders);
    s.phase = 2;
    for (Order o : s.orders) {
      if (o.gone) continue;
      lower(o, o.quantity - Math.max(0, s.done.fills[o.number]));
      o.gone = o.quantity == 0 || o.kind == 0 || o.kind == 4;
    }
    past.add(0, new int[] {s.done.price, s.done.volume, s.done.rest, s.done.trades.size()});
    act(s);
    return s.done.volume;
  }

  int open() {
    if (now.phase != 2) return -1;
    State s = now.copy();
    s.phase = 0;
    if (s.done.price > 0) s.reference = s.done.price;
    s.done = null;
    s.orders.removeIf(o -> o.gone);
    for (int i = 0; i < s.orders.size(); i++) s.orders.get(i).number = i;
    act(s);
    return s.orders.size();
  }

  int reference(int p) {
    if (!in(p, 1, 999) || now.phase != 0) return -1;
    int was = now.reference;
    State s = now.copy();
    s.reference = p;
    act(s);
    return was;
  }

  boolean collar(int low, int high) {
    if (!in(low, 1, 999) || !in(high, low, 999) || now.phase != 0) return false;
    State s = now.copy();
    s.low = low;
    s.high = high;
    return act(s);
  }

  boolean back() {
    if (acts.isEmpty()) return false;
    now = acts.pop();
    return true;
  }

  // ---- questions

  int order(int i, int what) {
    if (!in(i, 0, now.orders.size() - 1) || !in(what, 0, 7)) return -1;
    Order o = now.orders.get(i);
    return new int[] {o.side, o.kind, o.quantity, o.price, o.shows, o.least, o.owner, o.gone ? 1 : 0}[what];
  }

  int curve(int p, int what) {
    if (!in(p, 1, 999) || !in(what, 0, 5)) throw new NoSuchElementException();
    return at(now.orders, p)[what];
  }

  int crossed(int what) {
    if (!in(what, 0, 6)) throw new NoSuchElementException();
    Outcome r = outcome();
    return new int[] {r.price, r.volume, r.rest, r.key, r.rounds, r.outs.size(), r.widest}[what];
  }

  int fill(int i) { return in(i, 0, now.orders.size() - 1) ? outcome().fills[i] : -1; }

  int slice(int side, int p, int i, int what) {
    if (!in(side, 0, 1) || !in(p, 1, 999) || !in(what, 0, 1)) return -1;
    List<Slice> all = slices(now.orders, side, p);
    if (i == -1) return all.size();
    if (!in(i, 0, all.size() - 1)) return -1;
    return what == 0 ? all.get(i).order.number : all.get(i).many;
  }

  int trade(int i, int what) {
    if (!in(what, 0, 2)) return -1;
    List<int[]> all = outcome().trades;
    if (i == -1) return all.size();
    return in(i, 0, all.size() - 1) ? all.get(i)[what] : -1;
  }

  int notice(int what) {
    if (!in(what, 0, 3) && what != 6) throw new NoSuchElementException();
    List<Order> shown = new ArrayList<>();
    for (Order o : now.orders) {
      if (o.kind == 2 || o.gone) continue;
      Order c = o.copy();
      if (o.kind == 3) c.quantity = o.shows;
      shown.add(c);
    }
    Outcome r = new Outcome();
    price(now, shown, r);
    return new int[] {r.price, r.volume, r.rest, r.key, 0, 0, r.widest}[what];
  }

  int without(int i) {
    if (stands(i) == null || now.phase == 2) return -2;
    List<Order> others = new ArrayList<>(now.orders);
    others.remove(i);
    return cross(now, others).price;
  }

  int with(int side, int kind, int quantity, int price) {
    Order o = make(now.orders.size(), side, kind, quantity, price, quantity, 0, 0);
    if (o == null || now.phase == 2) return -2;
    List<Order> more = new ArrayList<>(now.orders);
    more.add(o);
    return cross(now, more).price;
  }

  int moves(int side, int what) {
    if (!in(side, 0, 1) || !in(what, 0, 1) || now.phase == 2) return -1;
    int price = cross(now, now.orders).price;
    for (int q = 1; q <= 200; q++) {
      int other = with(side, 0, q, 0);
      if (other != price) return what == 0 ? q : other;
    }
    return -1;
  }

  long swings() {
    if (now.phase == 2) return 0;
    int price = cross(now, now.orders).price;
    long bits = 0;
    for (Order o : now.orders) if (!o.gone && without(o.number) != price) bits |= 1L << o.number;
    return bits;
  }

  int level(int side, int i, int what) {
    if (!in(side, 0, 1) || !in(what, 0, 3)) return -1;
    List<int[]> levels = new ArrayList<>();
    for (int k = 1; k <= 999; k++) {
      int p = side == 0 ? 1000 - k : k;
      int[] l = {p, 0, 0, 0};
      for (Order o : now.orders) {
        if (o.gone || o.side != side || o.price != p) continue;
        l[1] += o.kind == 2 ? 0 : o.kind == 3 ? o.shows : o.quantity;
        l[2] += o.quantity;
        l[3]++;
      }
      if (l[3] > 0) levels.add(l);
    }
    if (i == -1) return levels.size();
    return in(i, 0, levels.size() - 1) ? levels.get(i)[what] : -1;
  }

  int past(int i, int what) {
    if (!in(i, 0, Math.min(8, past.size()) - 1) || !in(what, 0, 3)) throw new NoSuchElementException();
    return past.get(i)[what];
  }

  int owner(int owner, int what) {
    if (!in(owner, 0, 7) || !in(what, 0, 3)) return -1;
    Outcome r = outcome();
    int sum = 0;
    for (Order o : now.orders) {
      if (o.owner != owner) continue;
      if (what == 3) sum += o.gone ? 0 : 1;
      if (what == o.side) sum += Math.max(0, r.fills[o.number]);
    }
    if (what == 2) for (int[] t : r.trades) if (r.owners[t[0]] == owner && r.owners[t[1]] == owner) sum += t[2];
    return sum;
  }

  long gain() { return outcome().gain; }

  int left() { return outcome().left; }

  int count(int what) {
    int standing = 0, high = 0, low = 1000;
    for (Order o : now.orders) {
      if (o.gone) continue;
      standing++;
      if (o.side == 0 && o.kind != 0) high = Math.max(high, o.price);
      if (o.side == 1 && o.kind != 0) low = Math.min(low, o.price);
    }
    int[] all = {now.orders.size(), now.phase, now.reference, now.low, now.high, standing, high, low, acts.size(), tape.length(), past.size()};
    return in(what, 0, 10) ? all[what] : -1;
  }
}
