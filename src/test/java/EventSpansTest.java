import java.lang.reflect.Constructor;
import java.lang.reflect.Method;
import java.lang.reflect.Modifier;
import java.util.Arrays;
import java.util.NoSuchElementException;
import java.util.TreeSet;

/** For each promise: ordinary inputs, the edges that the document names, and wrong inputs. */
public final class EventSpansTest {
  private static final int LOWEST = Integer.MIN_VALUE;
  private static final int HIGHEST = Integer.MAX_VALUE;
  private static final Class<?> MISSING = NoSuchElementException.class;
  private static final Class<?> UNSUPPORTED = UnsupportedOperationException.class;
  private static final Class<?> STATE = IllegalStateException.class;
  private static final Class<?> ARGUMENT = IllegalArgumentException.class;

  private static int wrong = 0;
  private static String part = "";

  private interface Call {
    long answer();
  }

  private static void answers(String call, long want, Call made) {
    try {
      long got = made.answer();
      if (got != want) {
        report(call + " answered " + got + ", due is " + want);
      }
    } catch (RuntimeException e) {
      report(call + " threw " + e + ", due is " + want);
    }
  }

  private static void refuses(String call, Class<?> want, Call made) {
    try {
      report(call + " answered " + made.answer() + ", due is " + want.getSimpleName());
    } catch (RuntimeException e) {
      if (e.getClass() != want) {
        report(call + " threw " + e + ", due is " + want.getSimpleName());
      }
    }
  }

  private static void report(String text) {
    wrong++;
    System.out.println(part + ": " + text);
  }

  /** Two histories from one root, and an event on both:  0 1 2 - 3 4 (agent 7), 2 - 5 (agent 5), 4 5 - 6 7 (agent 2). */
  private static EventSpans diamond() {
    EventSpans x = new EventSpans();
    x.add(5, 3);
    x.parent(5, 2);
    x.add(7, 2);
    x.parent(5, 2);
    x.add(5, 1);
    x.heads();
    x.add(2, 2);
    return x;
  }

  /** As many agents as there may be, each with one root of its own. */
  private static EventSpans sixteenRoots() {
    EventSpans x = new EventSpans();
    for (int i = 0; i < 16; i++) {
      x.add(255 - i, 1);
    }
    return x;
  }

  private static String thrownBy(Method method) {
    StringBuilder text = new StringBuilder();
    for (Class<?> thrown : method.getExceptionTypes()) {
      text.append(' ').append(thrown.getSimpleName().replace("Exception", ""));
    }
    return text.toString();
  }

  private static void face() {
    part = "the face";
    TreeSet<String> got = new TreeSet<>();
    for (Method m : EventSpans.class.getDeclaredMethods()) {
      if (!Modifier.isPrivate(m.getModifiers())) {
        got.add(Modifier.toString(m.getModifiers()) + " " + m.getReturnType() + " " + m.getName() + Arrays.toString(m.getParameterTypes()) + thrownBy(m));
      }
    }
    TreeSet<String> want = new TreeSet<>(Arrays.asList(
        "public int parent[int, int] NoSuchElement UnsupportedOperation IllegalState", "public int heads[]",
        "public int add[int, int] IllegalArgument UnsupportedOperation IllegalState",
        "public int events[int] IllegalArgument", "public int place[int, int] NoSuchElement",
        "public long id[int] NoSuchElement", "public int parentOf[int, int] NoSuchElement",
        "public int related[int, int] NoSuchElement", "public int apart[int, int] NoSuchElement",
        "public int latest[int, int, int] NoSuchElement", "public int head[int] NoSuchElement",
        "public int critical[]", "public int base[int]"));
    if (!got.equals(want)) {
      report("the methods are " + got);
    }
    Constructor<?>[] made = EventSpans.class.getDeclaredConstructors();
    if (made.length != 1 || made[0].getParameterCount() != 0 || !Modifier.isPublic(made[0].getModifiers())) {
      report("the constructors are " + Arrays.toString(made));
    }
    if (!Modifier.isFinal(EventSpans.class.getModifiers()) || EventSpans.class.getFields().length != 0) {
      report("the class is not final, or has a public field");
    }
  }

  private static void newObject() {
    part = "promise 1";
    EventSpans x = new EventSpans();
    answers("events(-1)", 0, () -> x.events(-1));
    answers("events(0)", 0, () -> x.events(0));
    answers("critical()", 0, () -> x.critical());
    answers("base(max)", -1, () -> x.base(HIGHEST));
    refuses("head(0)", MISSING, () -> x.head(0));
    refuses("id(0)", MISSING, () -> x.id(0));
    refuses("place(0, 0)", MISSING, () -> x.place(0, 0));
    refuses("related(0, 0)", MISSING, () -> x.related(0, 0));
    answers("heads()", 0, () -> x.heads());
    answers("add(0, 1)", 0, () -> x.add(0, 1));
    answers("parentOf(0, -1): the list was empty", 0, () -> x.parentOf(0, -1));
    EventSpans y = new EventSpans();
    answers("events(-1) of another object", 0, () -> y.events(-1));
  }

  private static void parent() {
    part = "promise 2";
    EventSpans x = new EventSpans();
    refuses("parent(3, 0)", MISSING, () -> x.parent(3, 0));
    x.add(3, 17);
    refuses("parent(3, -1)", MISSING, () -> x.parent(3, -1));
    refuses("parent(3, 17)", MISSING, () -> x.parent(3, 17));
    refuses("parent(3, max)", MISSING, () -> x.parent(3, HIGHEST));
    refuses("parent(3, min)", MISSING, () -> x.parent(3, LOWEST));
    refuses("parent(4, 0)", MISSING, () -> x.parent(4, 0));
    refuses("parent(-1, 0)", MISSING, () -> x.parent(-1, 0));
    refuses("parent(256, 0)", MISSING, () -> x.parent(256, 0));
    refuses("parent(min, 0)", MISSING, () -> x.parent(LOWEST, 0));
    refuses("parent(max, 0)", MISSING, () -> x.parent(HIGHEST, 0));
    answers("parent(3, 15)", 1, () -> x.parent(3, 15));
    refuses("parent(3, 15) again", UNSUPPORTED, () -> x.parent(3, 15));
    for (int i = 0; i < 15; i++) {
      int number = i;
      answers("parent(3, " + i + ")", i + 2, () -> x.parent(3, number));
    }
    refuses("parent(3, 16): 16 are there", STATE, () -> x.parent(3, 16));
    refuses("parent(3, 0): on the list comes before 16", UNSUPPORTED, () -> x.parent(3, 0));
    refuses("parent(3, 15): on the list comes before 16", UNSUPPORTED, () -> x.parent(3, 15));
    refuses("parent(3, 17): no such event comes before 16", MISSING, () -> x.parent(3, 17));

    EventSpans y = sixteenRoots();
    for (int i = 0; i < 16; i++) {
      int agent = 240 + i;
      answers("parent(" + agent + ", 0)", i + 1, () -> y.parent(agent, 0));
    }
    answers("add(250, 1): 16 parents", 16, () -> y.add(250, 1));
    answers("parentOf(16, -1)", 16, () -> y.parentOf(16, -1));
  }

  private static void heads() {
    part = "promise 3";
    EventSpans x = sixteenRoots();
    x.parent(255, 0);
    answers("heads(): 16 in place of one", 16, () -> x.heads());
    refuses("parent(255, 0): it is on the list", UNSUPPORTED, () -> x.parent(255, 0));
    answers("heads() again", 16, () -> x.heads());
    answers("add(240, 3)", 18, () -> x.add(240, 3));
    answers("heads()", 1, () -> x.heads());
    refuses("parent(240, 3)", UNSUPPORTED, () -> x.parent(240, 3));
    answers("parent(240, 2): it is no head", 2, () -> x.parent(240, 2));

    EventSpans y = diamond();
    y.parent(5, 0);
    y.parent(7, 1);
    answers("heads() of the diamond: one in place of two", 1, () -> y.heads());
    answers("parent(7, 1): no longer on the list", 2, () -> y.parent(7, 1));
    answers("heads() of the diamond again", 1, () -> y.heads());
    y.add(5, 1);
    y.parent(7, 1);
    y.add(7, 1);
    answers("heads(): a branch from an event with children", 2, () -> y.heads());
    answers("add(9, 1)", 10, () -> y.add(9, 1));
    answers("parentOf(10, 0)", 8, () -> y.parentOf(10, 0));
    answers("parentOf(10, 1)", 9, () -> y.parentOf(10, 1));
  }

  private static void add() {
    part = "promise 4";
    EventSpans x = new EventSpans();
    answers("add(0, 1)", 0, () -> x.add(0, 1));
    answers("add(255, 2000)", 2000, () -> x.add(255, 2000));
    x.parent(0, 0);
    refuses("add(-1, 1)", ARGUMENT, () -> x.add(-1, 1));
    refuses("add(256, 1)", ARGUMENT, () -> x.add(256, 1));
    refuses("add(min, 1)", ARGUMENT, () -> x.add(LOWEST, 1));
    refuses("add(max, 1)", ARGUMENT, () -> x.add(HIGHEST, 1));
    refuses("add(0, 0)", ARGUMENT, () -> x.add(0, 0));
    refuses("add(0, -1)", ARGUMENT, () -> x.add(0, -1));
    refuses("add(0, 2001)", ARGUMENT, () -> x.add(0, 2001));
    refuses("add(0, max)", ARGUMENT, () -> x.add(0, HIGHEST));
    refuses("add(0, min)", ARGUMENT, () -> x.add(0, LOWEST));
    refuses("parent(0, 0): the list stays", UNSUPPORTED, () -> x.parent(0, 0));
    answers("add(0, 2)", 2002, () -> x.add(0, 2));
    answers("parentOf(2001, -1)", 1, () -> x.parentOf(2001, -1));
    answers("parentOf(2001, 0)", 0, () -> x.parentOf(2001, 0));
    answers("parentOf(2002, 0)", 2001, () -> x.parentOf(2002, 0));
    refuses("add(0, 1): the list is empty", UNSUPPORTED, () -> x.add(0, 1));
    answers("events(-1): nothing came", 2003, () -> x.events(-1));
  }

  private static void addRefusesParents() {
    part = "promise 4, parents";
    EventSpans x = diamond();
    x.parent(5, 0);
    x.parent(7, 1);
    refuses("add(9, 1): the first is an ancestor of the second", UNSUPPORTED, () -> x.add(9, 1));
    answers("parent(5, 0): the list is empty", 1, () -> x.parent(5, 0));
    x.parent(5, 3);
    refuses("add(9, 1): an ancestor in the same span", UNSUPPORTED, () -> x.add(9, 1));
    x.parent(2, 1);
    x.parent(5, 1);
    refuses("add(9, 1): the second is an ancestor of the first", UNSUPPORTED, () -> x.add(9, 1));
    x.parent(7, 1);
    refuses("add(5, 1): (5, 3) is no ancestor of (7, 1)", UNSUPPORTED, () -> x.add(5, 1));
    answers("events(-1): nothing came", 8, () -> x.events(-1));
    x.parent(5, 3);
    x.parent(7, 1);
    answers("add(5, 1): its latest is on the list", 8, () -> x.add(5, 1));
    x.parent(2, 1);
    answers("add(7, 1): its latest is an ancestor of one on the list", 9, () -> x.add(7, 1));
    x.parent(5, 2);
    refuses("add(5, 1): not its latest", UNSUPPORTED, () -> x.add(5, 1));
    x.parent(5, 2);
    answers("add(0, 1): a new agent needs no event of its own", 10, () -> x.add(0, 1));
    refuses("add(0, 1): the list is empty after one that came", UNSUPPORTED, () -> x.add(0, 1));
  }

  private static void addRefusesTooMany() {
    part = "promise 4, limits";
    EventSpans x = new EventSpans();
    x.add(1, 2000);
    for (int i = 0; i < 3; i++) {
      x.heads();
      x.add(1, 2000);
    }
    x.heads();
    refuses("add(1, 193)", STATE, () -> x.add(1, 193));
    refuses("add(1, 192): the list is empty", UNSUPPORTED, () -> x.add(1, 192));
    x.heads();
    answers("add(1, 192)", 8191, () -> x.add(1, 192));
    x.heads();
    refuses("add(1, 1): 8192 are there", STATE, () -> x.add(1, 1));
    refuses("add(1, 1): parents come before the limit", UNSUPPORTED, () -> x.add(1, 1));
    refuses("add(1, 2001): the range comes before the limit", ARGUMENT, () -> x.add(1, 2001));
    answers("events(-1)", 8192, () -> x.events(-1));
    answers("events(1)", 8192, () -> x.events(1));
    answers("critical()", 8192, () -> x.critical());
    answers("id(8191)", (1L << 32) + 8191, () -> x.id(8191));
    refuses("id(8192)", MISSING, () -> x.id(8192));
    refuses("add(2, 1): 8192 are there", STATE, () -> x.add(2, 1));
    answers("events(2)", 0, () -> x.events(2));

    EventSpans y = sixteenRoots();
    y.parent(255, 0);
    refuses("add(1, 1): 16 agents are there", STATE, () -> y.add(1, 1));
    answers("parent(255, 0): the list is empty", 1, () -> y.parent(255, 0));
    answers("events(1)", 0, () -> y.events(1));
    answers("add(255, 1): it is one of the 16", 16, () -> y.add(255, 1));
    y.parent(255, 0);
    y.parent(255, 1);
    refuses("add(1, 1): parents come before the limit", UNSUPPORTED, () -> y.add(1, 1));
  }

  private static void events() {
    part = "promise 5";
    EventSpans x = diamond();
    answers("events(-1)", 8, () -> x.events(-1));
    answers("events(5)", 4, () -> x.events(5));
    answers("events(7)", 2, () -> x.events(7));
    answers("events(2)", 2, () -> x.events(2));
    answers("events(0)", 0, () -> x.events(0));
    answers("events(255)", 0, () -> x.events(255));
    refuses("events(-2)", ARGUMENT, () -> x.events(-2));
    refuses("events(256)", ARGUMENT, () -> x.events(256));
    refuses("events(min)", ARGUMENT, () -> x.events(LOWEST));
    refuses("events(max)", ARGUMENT, () -> x.events(HIGHEST));
  }

  private static void place() {
    part = "promise 6";
    EventSpans x = diamond();
    int[][] rows = {{5, 0, 0}, {5, 2, 2}, {7, 0, 3}, {7, 1, 4}, {5, 3, 5}, {2, 0, 6}, {2, 1, 7}};
    for (int[] row : rows) {
      answers("place(" + row[0] + ", " + row[1] + ")", row[2], () -> x.place(row[0], row[1]));
    }
    int[][] none = {{5, 4}, {5, -1}, {7, 2}, {3, 0}, {-1, 0}, {256, 0}, {LOWEST, 0}, {HIGHEST, 0}, {5, LOWEST}, {5, HIGHEST}};
    for (int[] row : none) {
      refuses("place(" + row[0] + ", " + row[1] + ")", MISSING, () -> x.place(row[0], row[1]));
    }
  }

  private static void id() {
    part = "promise 7";
    EventSpans x = diamond();
    long[] ids = {5L << 32, (5L << 32) + 1, (5L << 32) + 2, 7L << 32, (7L << 32) + 1, (5L << 32) + 3, 2L << 32, (2L << 32) + 1};
    for (int i = 0; i < ids.length; i++) {
      int place = i;
      answers("id(" + i + ")", ids[i], () -> x.id(place));
    }
    for (int place : new int[] {-1, 8, 8191, 8192, LOWEST, HIGHEST}) {
      refuses("id(" + place + ")", MISSING, () -> x.id(place));
    }
    EventSpans y = new EventSpans();
    y.add(255, 1);
    answers("id(0) of agent 255", 255L * 4294967296L, () -> y.id(0));
  }

  private static void parentOf() {
    part = "promise 8";
    EventSpans x = diamond();
    answers("parentOf(0, -1)", 0, () -> x.parentOf(0, -1));
    refuses("parentOf(0, 0)", MISSING, () -> x.parentOf(0, 0));
    answers("parentOf(1, -1)", 1, () -> x.parentOf(1, -1));
    answers("parentOf(1, 0)", 0, () -> x.parentOf(1, 0));
    refuses("parentOf(1, 1)", MISSING, () -> x.parentOf(1, 1));
    answers("parentOf(5, 0)", 2, () -> x.parentOf(5, 0));
    answers("parentOf(6, -1)", 2, () -> x.parentOf(6, -1));
    answers("parentOf(6, 0)", 4, () -> x.parentOf(6, 0));
    answers("parentOf(6, 1)", 5, () -> x.parentOf(6, 1));
    refuses("parentOf(6, 2)", MISSING, () -> x.parentOf(6, 2));
    refuses("parentOf(6, -2)", MISSING, () -> x.parentOf(6, -2));
    refuses("parentOf(6, min)", MISSING, () -> x.parentOf(6, LOWEST));
    refuses("parentOf(6, max)", MISSING, () -> x.parentOf(6, HIGHEST));
    refuses("parentOf(8, -1)", MISSING, () -> x.parentOf(8, -1));
    refuses("parentOf(-1, -1)", MISSING, () -> x.parentOf(-1, -1));
    refuses("parentOf(min, 0)", MISSING, () -> x.parentOf(LOWEST, 0));
    refuses("parentOf(max, 0)", MISSING, () -> x.parentOf(HIGHEST, 0));

    EventSpans y = sixteenRoots();
    for (int place : new int[] {7, 2, 15, 0, 9}) {
      y.parent(255 - place, 0);
    }
    y.add(255, 1);
    int[] rising = {0, 2, 7, 9, 15};
    for (int i = 0; i < rising.length; i++) {
      int k = i;
      answers("parentOf(16, " + i + "): put in another order", rising[i], () -> y.parentOf(16, k));
    }
  }

  private static void related() {
    part = "promise 9";
    EventSpans x = diamond();
    int[][] rows = {
      {0, 0, 0}, {7, 7, 0}, {0, 2, 1}, {2, 0, 2}, {2, 3, 1}, {3, 2, 2}, {2, 5, 1}, {3, 5, 3}, {5, 3, 3},
      {4, 5, 3}, {5, 4, 3}, {4, 6, 1}, {5, 6, 1}, {6, 5, 2}, {0, 7, 1}, {7, 3, 2}};
    for (int[] row : rows) {
      answers("related(" + row[0] + ", " + row[1] + ")", row[2], () -> x.related(row[0], row[1]));
    }
    int[][] none = {{8, 0}, {0, 8}, {8, 8}, {-1, 0}, {0, -1}, {-1, -1}, {LOWEST, 0}, {0, HIGHEST}};
    for (int[] row : none) {
      refuses("related(" + row[0] + ", " + row[1] + ")", MISSING, () -> x.related(row[0], row[1]));
    }
  }

  private static void apart() {
    part = "promise 10";
    EventSpans x = diamond();
    int[][] rows = {
      {0, 0, 0}, {2, 0, 2}, {0, 2, 0}, {4, 5, 2}, {5, 4, 1}, {3, 5, 1}, {7, 4, 3}, {4, 7, 0}, {7, 5, 4}, {7, 0, 7}, {6, 7, 0}};
    for (int[] row : rows) {
      answers("apart(" + row[0] + ", " + row[1] + ")", row[2], () -> x.apart(row[0], row[1]));
    }
    EventSpans y = sixteenRoots();
    y.heads();
    y.add(255, 1);
    answers("apart(16, 0): all other roots and itself", 16, () -> y.apart(16, 0));
    answers("apart(0, 15): two roots", 1, () -> y.apart(0, 15));
    int[][] none = {{8, 0}, {0, 8}, {8, 8}, {-1, 0}, {0, -1}, {LOWEST, 0}, {0, HIGHEST}};
    for (int[] row : none) {
      refuses("apart(" + row[0] + ", " + row[1] + ")", MISSING, () -> x.apart(row[0], row[1]));
    }
  }

  private static void latest() {
    part = "promise 11";
    EventSpans x = diamond();
    int[][] rows = {
      {4, 5, 9, 4}, {4, 5, 5, 4}, {4, 5, 4, 3}, {4, 5, 3, -1}, {5, 4, HIGHEST, 5}, {5, 4, 5, -1}, {7, 4, 8, 7}, {7, 4, 7, 6},
      {7, 4, 6, 5}, {7, 4, 5, -1}, {7, 5, 6, 4}, {7, 5, 5, 4}, {2, 0, 2, 1}, {2, 0, 1, -1}, {7, 7, 9, -1}, {0, 7, 9, -1},
      {7, 0, 1, -1}, {7, 0, 0, -1}, {7, 0, -1, -1}, {7, 0, LOWEST, -1}, {7, 0, HIGHEST, 7}, {7, 0, LOWEST + 1, -1}};
    for (int[] row : rows) {
      answers("latest(" + row[0] + ", " + row[1] + ", " + row[2] + ")", row[3], () -> x.latest(row[0], row[1], row[2]));
    }
    int[][] none = {{8, 0}, {0, 8}, {8, 8}, {-1, 0}, {0, -1}, {LOWEST, 0}, {0, HIGHEST}};
    for (int[] row : none) {
      refuses("latest(" + row[0] + ", " + row[1] + ", 0)", MISSING, () -> x.latest(row[0], row[1], 0));
    }
  }

  private static void head() {
    part = "promise 12";
    EventSpans x = sixteenRoots();
    for (int i = 0; i < 16; i++) {
      int k = i;
      answers("head(" + i + "): by agents, not by places", 15 - i, () -> x.head(k));
    }
    for (int k : new int[] {16, -1, LOWEST, HIGHEST}) {
      refuses("head(" + k + ")", MISSING, () -> x.head(k));
    }
    x.parent(240, 0);
    x.parent(242, 0);
    x.add(242, 2);
    answers("head(0): (240, 0) has a child", 14, () -> x.head(0));
    answers("head(1): the last that came", 17, () -> x.head(1));
    answers("head(14)", 0, () -> x.head(14));
    refuses("head(15)", MISSING, () -> x.head(15));

    EventSpans y = diamond();
    answers("head(0) of the diamond", 7, () -> y.head(0));
    refuses("head(1) of the diamond", MISSING, () -> y.head(1));
    y.parent(5, 1);
    y.add(0, 1);
    answers("head(0): a branch from the middle", 8, () -> y.head(0));
    answers("head(1): the head before stays", 7, () -> y.head(1));
  }

  private static void critical() {
    part = "promise 13";
    EventSpans x = new EventSpans();
    x.add(5, 3);
    answers("critical(): a chain", 3, () -> x.critical());
    x.heads();
    x.add(7, 2);
    answers("critical(): a longer chain", 5, () -> x.critical());
    x.parent(5, 2);
    x.add(5, 1);
    answers("critical(): a branch", 3, () -> x.critical());
    x.heads();
    x.add(2, 2);
    answers("critical(): merged", 5, () -> x.critical());
    x.parent(5, 1);
    x.add(9, 1);
    answers("critical(): a branch from the middle of a span", 2, () -> x.critical());
    x.add(0, 1);
    answers("critical(): another root", 0, () -> x.critical());
    x.heads();
    answers("add(0, 1)", 10, () -> x.add(0, 1));
    answers("critical(): all merged", 1, () -> x.critical());
  }

  private static void base() {
    part = "promise 14";
    EventSpans x = diamond();
    int[][] rows = {
      {HIGHEST, 7}, {8, 7}, {7, 6}, {6, 2}, {5, 2}, {4, 2}, {3, 2}, {2, 1}, {1, 0}, {0, -1}, {-1, -1}, {LOWEST, -1}, {LOWEST + 1, -1}};
    for (int[] row : rows) {
      answers("base(" + row[0] + ")", row[1], () -> x.base(row[0]));
    }
    x.parent(5, 1);
    x.add(9, 1);
    answers("base(max): a branch from the middle of a span", 1, () -> x.base(HIGHEST));
    x.add(0, 1);
    answers("base(max): another root", -1, () -> x.base(HIGHEST));
  }

  public static void main(String[] args) {
    face();
    newObject();
    parent();
    heads();
    add();
    addRefusesParents();
    addRefusesTooMany();
    events();
    place();
    id();
    parentOf();
    related();
    apart();
    latest();
    head();
    critical();
    base();
    System.out.println(wrong == 0 ? "all answers are as due" : wrong + " answers are not as due");
    if (wrong != 0) {
      System.exit(1);
    }
  }
}
