import java.util.ArrayList;
import java.util.BitSet;
import java.util.List;
import java.util.NoSuchElementException;
import java.util.Random;
import java.util.TreeMap;

/**
 * Compares runs of calls with a model that keeps to the document's words: every event with the set
 * of its ancestors. The runs are drawn from fixed seeds, so they are the same each time.
 */
public final class EventSpansModelTest {
  private static final int CALLS = 512;

  /** The document's terms, written down with sets. */
  private static final class Model {
    final List<BitSet> ancestors = new ArrayList<>();
    final List<List<Integer>> parents = new ArrayList<>();
    final List<Long> ids = new ArrayList<>();
    final TreeMap<Integer, List<Integer>> byAgent = new TreeMap<>();
    List<Integer> list = new ArrayList<>();

    boolean isAncestor(int place, int other) {
      return ancestors.get(other).get(place);
    }

    int placeOf(int agent, int number) {
      List<Integer> own = byAgent.get(agent);
      if (own == null || number < 0 || number >= own.size()) {
        throw new NoSuchElementException();
      }
      return own.get(number);
    }

    void check(int place) {
      if (place < 0 || place >= ids.size()) {
        throw new NoSuchElementException();
      }
    }

    List<Integer> headPlaces() {
      BitSet below = new BitSet();
      for (BitSet set : ancestors) {
        below.or(set);
      }
      List<Integer> heads = new ArrayList<>();
      for (int place = 0; place < ids.size(); place++) {
        if (!below.get(place)) {
          heads.add(place);
        }
      }
      heads.sort((a, b) -> Long.compare(ids.get(a), ids.get(b)));
      return heads;
    }

    int parent(int agent, int number) {
      int place = placeOf(agent, number);
      if (list.contains(place)) {
        throw new UnsupportedOperationException();
      }
      if (list.size() == 16) {
        throw new IllegalStateException();
      }
      list.add(place);
      return list.size();
    }

    int heads() {
      list = headPlaces();
      return list.size();
    }

    int add(int agent, int n) {
      if (agent < 0 || agent > 255 || n < 1 || n > 2000) {
        throw new IllegalArgumentException();
      }
      List<Integer> taken = list;
      list = new ArrayList<>();
      for (int a : taken) {
        for (int b : taken) {
          if (isAncestor(a, b)) {
            throw new UnsupportedOperationException();
          }
        }
      }
      List<Integer> own = byAgent.get(agent);
      if (own != null) {
        int last = own.get(own.size() - 1);
        boolean found = false;
        for (int a : taken) {
          found |= a == last || isAncestor(last, a);
        }
        if (!found) {
          throw new UnsupportedOperationException();
        }
      }
      if (ids.size() + n > 8192 || (own == null && byAgent.size() == 16)) {
        throw new IllegalStateException();
      }
      taken.sort(null);
      for (int i = 0; i < n; i++) {
        put(agent, i == 0 ? taken : List.of(ids.size() - 1));
      }
      return ids.size() - 1;
    }

    void put(int agent, List<Integer> from) {
      BitSet set = new BitSet();
      for (int a : from) {
        set.or(ancestors.get(a));
        set.set(a);
      }
      List<Integer> own = byAgent.computeIfAbsent(agent, a -> new ArrayList<>());
      own.add(ids.size());
      ids.add(((long) agent << 32) + own.size() - 1);
      ancestors.add(set);
      parents.add(from);
    }

    int events(int agent) {
      if (agent < -1 || agent > 255) {
        throw new IllegalArgumentException();
      }
      return agent == -1 ? ids.size() : byAgent.containsKey(agent) ? byAgent.get(agent).size() : 0;
    }

    long id(int place) {
      check(place);
      return ids.get(place);
    }

    int parentOf(int place, int k) {
      check(place);
      List<Integer> all = parents.get(place);
      if (k < -1 || k >= all.size()) {
        throw new NoSuchElementException();
      }
      return k == -1 ? all.size() : all.get(k);
    }

    int related(int place, int other) {
      check(place);
      check(other);
      return place == other ? 0 : isAncestor(place, other) ? 1 : isAncestor(other, place) ? 2 : 3;
    }

    BitSet difference(int place, int other) {
      check(place);
      check(other);
      BitSet set = (BitSet) ancestors.get(place).clone();
      set.set(place);
      set.andNot(ancestors.get(other));
      set.clear(other);
      return set;
    }

    int head(int k) {
      List<Integer> heads = headPlaces();
      if (k < 0 || k >= heads.size()) {
        throw new NoSuchElementException();
      }
      return heads.get(k);
    }

    BitSet criticals() {
      BitSet set = new BitSet();
      for (int place = 0; place < ids.size(); place++) {
        boolean all = true;
        for (int other = 0; all && other < ids.size(); other++) {
          all = related(place, other) != 3;
        }
        set.set(place, all);
      }
      return set;
    }
  }

  private static int greatestBelow(BitSet set, int limit) {
    return limit <= 0 ? -1 : set.previousSetBit(limit - 1);
  }

  private static long askModel(Model m, int call, int a, int b, int c) {
    switch (call) {
      case 0: return m.parent(a, b);
      case 1: return m.heads();
      case 2: return m.add(a, b);
      case 3: return m.events(a);
      case 4: return m.placeOf(a, b);
      case 5: return m.id(a);
      case 6: return m.parentOf(a, b);
      case 7: return m.related(a, b);
      case 8: return m.difference(a, b).cardinality();
      case 9: return greatestBelow(m.difference(a, b), c);
      case 10: return m.head(a);
      case 11: return m.criticals().cardinality();
      default: return greatestBelow(m.criticals(), a);
    }
  }

  private static long askProgram(EventSpans x, int call, int a, int b, int c) {
    switch (call) {
      case 0: return x.parent(a, b);
      case 1: return x.heads();
      case 2: return x.add(a, b);
      case 3: return x.events(a);
      case 4: return x.place(a, b);
      case 5: return x.id(a);
      case 6: return x.parentOf(a, b);
      case 7: return x.related(a, b);
      case 8: return x.apart(a, b);
      case 9: return x.latest(a, b, c);
      case 10: return x.head(a);
      case 11: return x.critical();
      default: return x.base(a);
    }
  }

  private static final String[] NAMES = {
    "parent", "heads", "add", "events", "place", "id", "parentOf", "related", "apart", "latest", "head", "critical", "base"};

  private static int wrong = 0;

  private static void compare(int seed, int at, EventSpans x, Model m, int[] row) {
    String want;
    try {
      want = Long.toString(askModel(m, row[0], row[1], row[2], row[3]));
    } catch (RuntimeException e) {
      want = e.getClass().getName();
    }
    String got;
    try {
      got = Long.toString(askProgram(x, row[0], row[1], row[2], row[3]));
    } catch (RuntimeException e) {
      got = e.getClass().getName();
    }
    if (!got.equals(want)) {
      wrong++;
      System.out.println("seed " + seed + ", call " + at + ": " + NAMES[row[0]] + "(" + row[1] + ", " + row[2] + ", " + row[3]
          + ") answered " + got + ", due is " + want);
    }
  }

  /** How a run is drawn: few or many agents, short or long spans. */
  private static final class Draw {
    final Random random;
    final int agents;
    final int longest;

    Draw(int seed) {
      random = new Random(seed);
      agents = 1 + random.nextInt(18);
      longest = new int[] {1, 3, 10, 60}[random.nextInt(4)];
    }

    int agent() {
      return random.nextInt(60) == 0 ? random.nextInt(260) - 2 : random.nextInt(agents) * 37 % 256;
    }

    int place(Model m) {
      return random.nextInt(40) == 0 ? m.ids.size() + random.nextInt(2) : random.nextInt(m.ids.size() + 1) - random.nextInt(30) / 29;
    }

    int[] next(Model m) {
      int kind = random.nextInt(100);
      int agent = agent();
      int own = m.byAgent.containsKey(agent) ? m.byAgent.get(agent).size() : 0;
      if (kind < 22) {
        int number = random.nextInt(4) > 0 ? own - 1 : random.nextInt(own + 2) - 1;
        return new int[] {0, agent, number, 0};
      }
      if (kind < 30) {
        return new int[] {1, 0, 0, 0};
      }
      if (kind < 55) {
        int n = random.nextInt(50) == 0 ? 0 : 1 + random.nextInt(longest);
        return new int[] {2, agent, n, 0};
      }
      int call = 3 + random.nextInt(10);
      switch (call) {
        case 3: return new int[] {call, random.nextInt(4) == 0 ? -1 : agent, 0, 0};
        case 4: return new int[] {call, agent, random.nextInt(own + 2) - 1, 0};
        case 6: return new int[] {call, place(m), random.nextInt(5) - 2, 0};
        case 10: return new int[] {call, random.nextInt(8) - 1, 0, 0};
        default: return new int[] {call, place(m), place(m), place(m)};
      }
    }
  }

  /** An agent goes on behind its latest event and some others, so that most adds are taken. */
  private static void goOn(int seed, int at, EventSpans x, Model m, Draw draw) {
    int agent = draw.agent();
    List<Integer> own = m.byAgent.get(agent);
    if (own != null) {
      compare(seed, at, x, m, new int[] {0, agent, own.size() - 1, 0});
    }
    compare(seed, at + 1, x, m, new int[] {2, agent, 1 + draw.random.nextInt(draw.longest), 0});
  }

  private static void run(int seed) {
    EventSpans x = new EventSpans();
    Model m = new Model();
    Draw draw = new Draw(seed);
    for (int at = 0; at < CALLS - 1; at++) {
      if (draw.random.nextInt(8) == 0) {
        goOn(seed, at, x, m, draw);
        at++;
      } else {
        compare(seed, at, x, m, draw.next(m));
      }
    }
  }

  /** One graph in as many objects as its questions need, since an object is used for 512 calls. */
  private static final class Whole {
    final int seed;
    final Model model = new Model();
    final List<int[]> building = new ArrayList<>();
    EventSpans program = new EventSpans();
    int calls = 0;

    Whole(int seed) {
      this.seed = seed;
    }

    void build(int call, int a, int b) {
      int[] row = {call, a, b, 0};
      building.add(row);
      compare(seed, calls++, program, model, row);
    }

    void ask(int call, int a, int b, int c) {
      if (calls == CALLS) {
        rebuild();
      }
      compare(seed, calls++, program, model, new int[] {call, a, b, c});
    }

    void rebuild() {
      program = new EventSpans();
      Model again = new Model();
      calls = 0;
      for (int[] row : building) {
        compare(seed, calls++, program, again, row);
      }
    }
  }

  private static Whole buildSmall(int seed) {
    Whole whole = new Whole(seed);
    Random random = new Random(seed);
    for (int i = 0; i < 14; i++) {
      for (int j = random.nextInt(4); j > 0; j--) {
        int agent = random.nextInt(5);
        int own = whole.model.events(agent);
        whole.build(0, agent, own - 1 - random.nextInt(4) / 3);
      }
      whole.build(2, random.nextInt(5), 1 + random.nextInt(2));
    }
    return whole;
  }

  /** All pairs of places with all limits: the small graphs are looked at whole. */
  private static void runWhole(int seed) {
    Whole whole = buildSmall(seed);
    int size = whole.model.ids.size();
    whole.ask(11, 0, 0, 0);
    for (int a = -1; a <= size; a++) {
      whole.ask(12, a, 0, 0);
      whole.ask(10, a, 0, 0);
      for (int b = -1; b <= size; b++) {
        whole.ask(6, a, b, 0);
        whole.ask(7, a, b, 0);
        whole.ask(8, a, b, 0);
        for (int c = -1; c <= size + 1; c++) {
          whole.ask(9, a, b, c);
        }
      }
    }
  }

  public static void main(String[] args) {
    for (int seed = 0; seed < 150; seed++) {
      run(seed);
    }
    for (int seed = 0; seed < 300; seed++) {
      runWhole(seed);
    }
    System.out.println(wrong == 0 ? "all answers are as due" : wrong + " answers are not as due");
    if (wrong != 0) {
      System.exit(1);
    }
  }
}
