import java.util.Arrays;
import java.util.NoSuchElementException;

/**
 * The boundary cases that the document names (too small, too large, empty, full, a refused call):
 * each sentence has a test of its own, on objects of its own.
 */
public final class EventSpansEdgesTest {
  private static final int MIN = Integer.MIN_VALUE;
  private static final int MAX = Integer.MAX_VALUE;
  private static final int MOST_CALLS = 512;
  private static final Class<?> MISSING = NoSuchElementException.class;
  private static final Class<?> UNSUPPORTED = UnsupportedOperationException.class;
  private static final Class<?> STATE = IllegalStateException.class;
  private static final Class<?> ARGUMENT = IllegalArgumentException.class;

  private static final int[] NO_AGENTS = {-1, 256, 257, -256, MIN, MIN + 1, MAX, MAX - 1, 1 << 16};
  private static final int[] WHOLE_RANGE = {MIN, MIN + 1, -8192, -2, MAX - 1, MAX, 1 << 13, 1 << 16};

  private static int wrong = 0;

  private static long call(EventSpans x, String name, int[] a) {
    switch (name) {
      case "parent": return x.parent(a[0], a[1]);
      case "heads": return x.heads();
      case "add": return x.add(a[0], a[1]);
      case "events": return x.events(a[0]);
      case "place": return x.place(a[0], a[1]);
      case "id": return x.id(a[0]);
      case "parentOf": return x.parentOf(a[0], a[1]);
      case "related": return x.related(a[0], a[1]);
      case "apart": return x.apart(a[0], a[1]);
      case "latest": return x.latest(a[0], a[1], a[2]);
      case "head": return x.head(a[0]);
      case "critical": return x.critical();
      case "base": return x.base(a[0]);
      default: throw new Error("no call " + name);
    }
  }

  private static String outcome(EventSpans x, String name, int... arguments) {
    try {
      return Long.toString(call(x, name, arguments));
    } catch (RuntimeException e) {
      return e.getClass().getSimpleName();
    }
  }

  private static void report(String text) {
    wrong++;
    System.out.println(text);
  }

  /** The calls on one object, for one sentence of the document. */
  private static final class Run {
    final String sentence;
    final EventSpans x = new EventSpans();
    int calls = 0;

    Run(String sentence) {
      this.sentence = sentence;
    }

    private void due(String want, String name, int[] arguments) {
      calls++;
      if (calls > MOST_CALLS) {
        report(sentence + ": the test makes more calls than an object is used for");
      }
      String got = outcome(x, name, arguments);
      if (!got.equals(want)) {
        report(sentence + ": " + name + Arrays.toString(arguments) + " gave " + got + ", due is " + want);
      }
    }

    Run is(long want, String name, int... arguments) {
      due(Long.toString(want), name, arguments);
      return this;
    }

    Run refuses(Class<?> want, String name, int... arguments) {
      due(want.getSimpleName(), name, arguments);
      return this;
    }

    /** One argument too small or too large, all others as given. */
    Run refusesEach(Class<?> want, int[] values, int at, String name, int... arguments) {
      for (int value : values) {
        int[] changed = arguments.clone();
        changed[at] = value;
        refuses(want, name, changed);
      }
      return this;
    }

    /** The given number of agents, from 240 on, each with a root of its own and n events. */
    Run roots(int agents, int n) {
      for (int i = 0; i < agents; i++) {
        is((i + 1) * n - 1, "add", 240 + i, n);
      }
      return this;
    }

    /** One agent with 8192 events, the last of them at the last place there is. */
    Run fullChain(int agent) {
      is(1999, "add", agent, 2000);
      for (int i = 1; i < 4; i++) {
        is(1, "heads").is(2000 * i + 1999, "add", agent, 2000);
      }
      return is(1, "heads").is(8191, "add", agent, 192);
    }

    /** Places 0 1 2 (agent 5), 3 4 (agent 7, from 2), 5 (agent 5, from 2), 6 7 (agent 2, from 4 and 5). */
    Run diamond() {
      is(2, "add", 5, 3);
      is(1, "parent", 5, 2).is(4, "add", 7, 2);
      is(1, "parent", 5, 2).is(5, "add", 5, 1);
      return is(2, "heads").is(7, "add", 2, 2);
    }
  }

  private static Run run(String sentence) {
    return new Run(sentence);
  }

  // Promise 1: makes an object in the state that the terms give.

  private static void newObjectHasNoEvent() {
    Run run = run("1: no event");
    run.is(0, "events", -1).is(0, "critical").is(-1, "base", MAX).is(0, "heads");
    for (int place : new int[] {MIN, -1, 0, 1, 8191, 8192, MAX}) {
      run.refuses(MISSING, "id", place).refuses(MISSING, "parentOf", place, -1).refuses(MISSING, "head", place);
      run.refuses(MISSING, "related", place, place).refuses(MISSING, "apart", place, place);
      run.refuses(MISSING, "latest", place, place, MAX).refuses(MISSING, "place", 0, place);
      run.refuses(MISSING, "parent", 0, place);
    }
  }

  private static void newObjectHasNoAgent() {
    Run run = run("1: no agent");
    for (int agent = 0; agent < 256; agent++) {
      run.is(0, "events", agent);
    }
    run.roots(16, 1).is(16, "events", -1);
  }

  private static void newObjectHasAnEmptyList() {
    run("1: an empty list").is(0, "add", 0, 1).is(0, "parentOf", 0, -1).is(1, "parent", 0, 0);
  }

  private static void newObjectSharesNothing() {
    Run used = run("1: an object beside another").diamond().is(1, "heads");
    Run made = run("1: a new object beside another").is(0, "events", -1).is(0, "events", 5).is(0, "add", 5, 1);
    made.is(0, "parentOf", 0, -1);
    used.is(8, "events", -1).refuses(UNSUPPORTED, "parent", 2, 1);
  }

  // Promise 2: NoSuchElementException: there is no such event. UnsupportedOperationException: it is
  // on the list. IllegalStateException: 16 are there.

  private static void parentOfNoSuchEvent() {
    Run run = run("2: there is no such event").refuses(MISSING, "parent", 0, 0).diamond();
    run.refusesEach(MISSING, NO_AGENTS, 0, "parent", 0, 0);
    run.refusesEach(MISSING, WHOLE_RANGE, 1, "parent", 5, 0);
    run.refuses(MISSING, "parent", 5, -1).refuses(MISSING, "parent", 5, 4);
    run.refuses(MISSING, "parent", 7, -1).refuses(MISSING, "parent", 7, 2).refuses(MISSING, "parent", 2, 2);
    run.refuses(MISSING, "parent", 0, 0).refuses(MISSING, "parent", 255, 0).refuses(MISSING, "parent", 6, 0);
    run.is(1, "parent", 5, 0).is(2, "parent", 5, 2).is(3, "parent", 5, 3).is(4, "parent", 7, 1);

    run("2: there is no such event beyond 8192").fullChain(3).refuses(MISSING, "parent", 3, 8192).is(1, "parent", 3, 8191);
  }

  private static void parentOfOneOnTheList() {
    Run run = run("2: it is on the list").diamond();
    run.is(1, "parent", 5, 0).refuses(UNSUPPORTED, "parent", 5, 0);
    run.is(2, "parent", 7, 1).refuses(UNSUPPORTED, "parent", 5, 0).refuses(UNSUPPORTED, "parent", 7, 1);
    run.is(3, "parent", 5, 3).refuses(UNSUPPORTED, "parent", 7, 1);
    run.is(1, "heads").refuses(UNSUPPORTED, "parent", 2, 1).is(2, "parent", 2, 0);
  }

  private static void parentWhereSixteenAre() {
    Run run = run("2: 16 are there").is(16, "add", 0, 17);
    for (int number = 0; number < 16; number++) {
      run.is(number + 1, "parent", 0, number);
    }
    run.refuses(STATE, "parent", 0, 16);
    run.refuses(STATE, "parent", 0, 16);

    Run heads = run("2: 16 are there, the heads").roots(16, 2).is(16, "heads").refuses(STATE, "parent", 243, 0);
    heads.is(32, "add", 250, 1).is(16, "parentOf", 32, -1);
    for (int k = 0; k < 16; k++) {
      heads.is(2 * k + 1, "parentOf", 32, k);
    }
  }

  private static void parentTestsInOrder() {
    Run run = run("2: told in the order of testing").roots(16, 2).is(16, "heads");
    run.refuses(MISSING, "parent", 240, 2).refuses(MISSING, "parent", 239, 0).refuses(MISSING, "parent", 256, 0);
    run.refuses(UNSUPPORTED, "parent", 240, 1).refuses(UNSUPPORTED, "parent", 255, 1);
    run.refuses(STATE, "parent", 240, 0);
  }

  // Promise 3: The list becomes the heads; answers how many.

  private static void headsOfNoHead() {
    run("3: no head").is(0, "heads").is(0, "heads").is(0, "add", 9, 1).is(0, "parentOf", 0, -1);
  }

  private static void headsOfOneHead() {
    Run run = run("3: one head").is(0, "add", 9, 1).is(1, "heads").refuses(UNSUPPORTED, "parent", 9, 0);
    run.is(3, "add", 9, 3).is(1, "heads").refuses(UNSUPPORTED, "parent", 9, 3).is(2, "parent", 9, 2);
    run.is(1, "heads").is(4, "add", 0, 1).is(1, "parentOf", 4, -1).is(3, "parentOf", 4, 0);
  }

  private static void headsOfSixteenHeads() {
    Run run = run("3: as many heads as there can be").roots(16, 20);
    for (int number = 0; number < 16; number++) {
      run.is(number + 1, "parent", 240, number);
    }
    run.is(16, "heads").is(16, "heads").refuses(UNSUPPORTED, "parent", 255, 19).refuses(STATE, "parent", 240, 0);
    run.is(320, "add", 240, 1).is(16, "parentOf", 320, -1).is(19, "parentOf", 320, 0).is(319, "parentOf", 320, 15);
    run.is(1, "heads");
  }

  // Promise 4: n (1 .. 2000) events of an agent come.

  private static void addOfTheLeastAndTheMost() {
    Run run = run("4: n is 1 .. 2000").is(0, "add", 0, 1).is(1, "events", 0);
    run.is(2000, "add", 255, 2000).is(2000, "events", 255).is(2001, "events", -1);
    run.is(1, "parent", 0, 0).is(2002, "add", 0, 2).is(3, "events", 0);
    run.is(0, "parentOf", 2001, 0).is(2001, "parentOf", 2002, 0);
  }

  // IllegalArgumentException: agent or n out of range (the list stays).

  private static void addOfNoAgent() {
    Run run = run("4: agent out of range (the list stays)").diamond().is(1, "parent", 5, 3).is(2, "parent", 7, 1);
    run.refusesEach(ARGUMENT, NO_AGENTS, 0, "add", 0, 1).refusesEach(ARGUMENT, NO_AGENTS, 0, "add", 0, 2001);
    run.refuses(UNSUPPORTED, "parent", 5, 3).refuses(UNSUPPORTED, "parent", 7, 1).is(8, "events", -1);
    run.is(8, "add", 0, 1).is(2, "parentOf", 8, -1).is(4, "parentOf", 8, 0).is(5, "parentOf", 8, 1);
  }

  private static void addOfNoCount() {
    int[] none = {0, -1, 2001, 2002, -2000, MIN, MIN + 1, MIN + 1999, MAX, MAX - 1, 8192, 1 << 16};
    Run run = run("4: n out of range (the list stays)").diamond().is(1, "parent", 5, 3).is(2, "parent", 7, 1);
    run.refusesEach(ARGUMENT, none, 1, "add", 5, 0).refusesEach(ARGUMENT, none, 1, "add", 9, 0);
    run.refuses(UNSUPPORTED, "parent", 5, 3).refuses(UNSUPPORTED, "parent", 7, 1).is(8, "events", -1).is(0, "events", 9);
    run.is(8, "add", 5, 1).is(2, "parentOf", 8, -1).is(4, "parentOf", 8, 0).is(5, "parentOf", 8, 1);
  }

  private static void addTestsTheRangeFirst() {
    Run parents = run("4: the range comes before the parents").diamond().is(1, "parent", 5, 0).is(2, "parent", 5, 1);
    parents.refuses(ARGUMENT, "add", 256, 1).refuses(ARGUMENT, "add", 5, 0).refuses(ARGUMENT, "add", 5, 2001);
    parents.refuses(UNSUPPORTED, "parent", 5, 0).refuses(UNSUPPORTED, "parent", 5, 1);

    Run full = run("4: the range comes before the limits").fullChain(1).is(1, "heads");
    full.refuses(ARGUMENT, "add", -1, 1).refuses(ARGUMENT, "add", 256, 1).refuses(ARGUMENT, "add", 1, 2001);
    full.refuses(ARGUMENT, "add", 1, 0).refuses(UNSUPPORTED, "parent", 1, 8191);
  }

  // In all that follows the list is empty then.

  private static void addEmptiesTheList() {
    Run run = run("4: the list is empty then, where events come").diamond().is(1, "heads");
    run.is(8, "add", 9, 1).is(1, "parent", 2, 1).is(2, "parent", 2, 0);

    run = run("4: the list is empty then, where one is an ancestor").diamond().is(1, "parent", 5, 0).is(2, "parent", 5, 1);
    run.refuses(UNSUPPORTED, "add", 9, 1).is(1, "parent", 5, 0).is(2, "parent", 5, 1);

    run = run("4: the list is empty then, where the latest is missing").diamond().is(1, "parent", 7, 1);
    run.refuses(UNSUPPORTED, "add", 5, 1).is(1, "parent", 7, 1);

    run = run("4: the list is empty then, where there would be too many events").fullChain(1).is(1, "heads");
    run.refuses(STATE, "add", 1, 1).is(1, "parent", 1, 8191);

    run = run("4: the list is empty then, where there would be too many agents").roots(16, 1).is(16, "heads");
    run.refuses(STATE, "add", 0, 1).is(1, "parent", 240, 0);
  }

  // UnsupportedOperationException: one of the list is an ancestor of another one;

  private static void addWithAnAncestorOnTheList() {
    Run run = run("4: one of the list is an ancestor of another one").diamond();
    int[][] pairs = {{5, 0, 5, 1}, {5, 1, 5, 0}, {5, 0, 2, 1}, {2, 1, 5, 0}, {7, 1, 2, 0}, {5, 3, 2, 0}, {5, 2, 7, 0}, {5, 2, 5, 3}};
    for (int[] pair : pairs) {
      run.is(1, "parent", pair[0], pair[1]).is(2, "parent", pair[2], pair[3]).refuses(UNSUPPORTED, "add", 9, 1);
    }
    run.is(1, "parent", 5, 3).is(2, "parent", 7, 0).is(3, "parent", 5, 1).refuses(UNSUPPORTED, "add", 5, 1);
    run.is(8, "events", -1).is(0, "events", 9).is(1, "parent", 7, 0).is(2, "parent", 5, 3).is(8, "add", 9, 1);

    Run full = run("4: one of 16 on the list is an ancestor of another one").roots(15, 2);
    for (int agent = 240; agent < 255; agent++) {
      full.is(agent - 239, "parent", agent, 1);
    }
    full.is(16, "parent", 254, 0).refuses(UNSUPPORTED, "add", 255, 1);
    full.is(15, "heads").is(30, "add", 255, 1).is(15, "parentOf", 30, -1);
  }

  // or the agent has events, and its latest is not on the list (it may be empty), and no ancestor of
  // one that is.

  private static void addWithoutTheLatest() {
    Run run = run("4: the agent's latest is not on the list, and no ancestor").diamond();
    run.refuses(UNSUPPORTED, "add", 5, 1).refuses(UNSUPPORTED, "add", 7, 1).refuses(UNSUPPORTED, "add", 2, 1);
    run.is(1, "parent", 5, 2).refuses(UNSUPPORTED, "add", 5, 1);
    run.is(1, "parent", 7, 1).refuses(UNSUPPORTED, "add", 5, 1);
    run.is(1, "parent", 7, 0).refuses(UNSUPPORTED, "add", 7, 1);
    run.is(1, "parent", 7, 0).is(2, "parent", 5, 3).refuses(UNSUPPORTED, "add", 7, 1);
    run.is(1, "parent", 2, 0).refuses(UNSUPPORTED, "add", 2, 1);
    run.is(8, "events", -1).is(4, "events", 5).is(2, "events", 7).is(2, "events", 2);
  }

  private static void addWithTheLatest() {
    Run run = run("4: the agent's latest is on the list, or an ancestor").diamond();
    run.is(1, "parent", 5, 3).is(8, "add", 5, 1);
    run.is(1, "parent", 2, 0).is(9, "add", 7, 1).is(1, "parentOf", 9, -1).is(6, "parentOf", 9, 0);
    run.is(1, "parent", 7, 2).is(2, "parent", 2, 1).is(10, "add", 2, 1);
    run.is(11, "add", 0, 1).is(0, "parentOf", 11, -1);
  }

  // IllegalStateException: the graph would have too many events, or agents.

  private static void addOfTooManyEvents() {
    Run run = run("4: too many events").is(1999, "add", 1, 2000);
    for (int i = 1; i < 4; i++) {
      run.is(1, "heads").is(2000 * i + 1999, "add", 1, 2000);
    }
    run.is(1, "heads").refuses(STATE, "add", 1, 2000).is(1, "heads").refuses(STATE, "add", 1, 193);
    run.refuses(STATE, "add", 2, 193).is(8000, "events", -1).is(0, "events", 2).refuses(MISSING, "id", 8000);
    run.is(8191, "add", 2, 192).is(8192, "events", -1).is(192, "events", 2);
    run.is(2, "heads").refuses(STATE, "add", 1, 1).refuses(STATE, "add", 3, 1).refuses(STATE, "add", 3, 2000);
    run.is(8192, "events", -1).is(0, "events", 3).is(2, "heads").is(7999, "head", 0).is(8191, "head", 1);
  }

  private static void addOfTooManyAgents() {
    Run run = run("4: too many agents").roots(15, 1).is(0, "events", 0).is(15, "add", 0, 1);
    for (int agent : new int[] {1, 239, 255}) {
      run.refuses(STATE, "add", agent, 1).is(0, "events", agent).is(16, "heads").refuses(STATE, "add", agent, 1);
    }
    run.is(16, "events", -1).refuses(MISSING, "id", 16).is(16, "heads").is(16, "add", 254, 1).is(1, "parent", 254, 1);
    run.is(17, "add", 0, 1).is(18, "events", -1);
  }

  private static void addRefusedMakesNoAgent() {
    Run run = run("4: a refused agent is none of the 16").is(1999, "add", 1, 2000);
    for (int i = 1; i < 4; i++) {
      run.is(1, "heads").is(2000 * i + 1999, "add", 1, 2000);
    }
    for (int agent = 100; agent < 120; agent++) {
      run.refuses(STATE, "add", agent, 193).is(1, "parent", 1, 0).is(2, "parent", 1, 1).refuses(UNSUPPORTED, "add", agent, 1);
      run.refuses(ARGUMENT, "add", agent, 0);
    }
    for (int i = 0; i < 15; i++) {
      run.is(8000 + i, "add", 240 + i, 1);
    }
    run.refuses(STATE, "add", 100, 1).is(8015, "events", -1);
  }

  private static void addTestsTheParentsBeforeTheLimits() {
    Run events = run("4: parents come before too many events").fullChain(1).refuses(UNSUPPORTED, "add", 1, 1);
    events.is(1, "parent", 1, 0).is(2, "parent", 1, 8191).refuses(UNSUPPORTED, "add", 2, 1);
    Run agents = run("4: parents come before too many agents").roots(16, 2);
    agents.is(1, "parent", 240, 1).is(2, "parent", 240, 0).refuses(UNSUPPORTED, "add", 0, 1);
  }

  // Promise 5: How many events an agent has; all for -1. IllegalArgumentException: agent out of range.

  private static void eventsOfAnAgent() {
    Run run = run("5: how many events an agent has; all for -1").is(0, "events", -1).is(0, "events", 0).is(0, "events", 255);
    run.is(0, "add", 0, 1).is(2000, "add", 255, 2000).is(2001, "events", -1).is(1, "events", 0).is(2000, "events", 255);
    run.is(0, "events", 1).is(0, "events", 254);
    run("5: all that there can be").fullChain(255).is(8192, "events", -1).is(8192, "events", 255).is(0, "events", 0);
  }

  private static void eventsOfNoAgent() {
    int[] none = {-2, -3, 256, 257, -256, MIN, MIN + 1, MAX, MAX - 1, 1 << 16};
    run("5: agent out of range, no events").refusesEach(ARGUMENT, none, 0, "events", 0);
    run("5: agent out of range").diamond().refusesEach(ARGUMENT, none, 0, "events", 0).is(8, "events", -1);
  }

  // Promise 6: NoSuchElementException: there is no such event.

  private static void placeOfNoSuchEvent() {
    Run run = run("6: there is no such event").refuses(MISSING, "place", 0, 0).diamond();
    run.refusesEach(MISSING, NO_AGENTS, 0, "place", 0, 0).refusesEach(MISSING, WHOLE_RANGE, 1, "place", 5, 0);
    run.is(0, "place", 5, 0).is(2, "place", 5, 2).is(5, "place", 5, 3).is(3, "place", 7, 0).is(7, "place", 2, 1);
    run.refuses(MISSING, "place", 5, -1).refuses(MISSING, "place", 5, 4).refuses(MISSING, "place", 7, -1);
    run.refuses(MISSING, "place", 7, 2).refuses(MISSING, "place", 2, 2).refuses(MISSING, "place", 6, 0);
    run.refuses(MISSING, "place", 0, 0).refuses(MISSING, "place", 255, 0);

    Run full = run("6: there is no such event beyond 8192").fullChain(255).is(0, "place", 255, 0).is(8191, "place", 255, 8191);
    full.refuses(MISSING, "place", 255, 8192).refuses(MISSING, "place", 254, 0);
    full.is(1999, "place", 255, 1999).is(2000, "place", 255, 2000);
  }

  // Promise 7: 2^32 times the agent + the number of the event at a place. NoSuchElementException:
  // there is none.

  private static void idOfTheLeastAndTheMost() {
    run("7: 2^32 times agent 0").is(1, "add", 0, 2).is(0, "id", 0).is(1, "id", 1);
    Run most = run("7: 2^32 times agent 255 + number 8191").fullChain(255).is(1095216660480L, "id", 0);
    most.is(1095216660480L + 8191, "id", 8191).is(1095216660480L + 2000, "id", 2000);
  }

  private static void idOfNoPlace() {
    Run run = run("7: there is none").refuses(MISSING, "id", 0).diamond().is(5L << 32, "id", 0).is((2L << 32) + 1, "id", 7);
    run.refuses(MISSING, "id", -1).refuses(MISSING, "id", 8).refuses(MISSING, "id", 8191).refusesEach(MISSING, WHOLE_RANGE, 0, "id", 0);
    run("7: there is none beyond 8192").fullChain(0).is(8191, "id", 8191).refuses(MISSING, "id", 8192).refuses(MISSING, "id", -1);
  }

  // Promise 8: How many parents the event at a place has (k -1), or the place of its parent k, from
  // 0, by rising places. NoSuchElementException: there is no such event, or parent.

  private static void parentOfCounts() {
    Run run = run("8: how many parents (k -1)").diamond().is(0, "parentOf", 0, -1).is(1, "parentOf", 1, -1);
    run.is(1, "parentOf", 3, -1).is(2, "parentOf", 6, -1).is(1, "parentOf", 7, -1);
    Run most = run("8: 16 parents").roots(16, 1).is(16, "heads").is(17, "add", 240, 2);
    most.is(16, "parentOf", 16, -1).is(0, "parentOf", 16, 0).is(15, "parentOf", 16, 15).refuses(MISSING, "parentOf", 16, 16);
    most.is(1, "parentOf", 17, -1).is(16, "parentOf", 17, 0).refuses(MISSING, "parentOf", 17, 1);
  }

  private static void parentOfRises() {
    Run run = run("8: by rising places").is(0, "add", 9, 1).is(1, "add", 3, 1).is(2, "add", 200, 1).is(3, "add", 4, 1);
    run.is(1, "parent", 4, 0).is(2, "parent", 9, 0).is(3, "parent", 200, 0).is(4, "parent", 3, 0).is(4, "add", 0, 1);
    run.is(0, "parentOf", 4, 0).is(1, "parentOf", 4, 1).is(2, "parentOf", 4, 2).is(3, "parentOf", 4, 3);
    run.is(1, "parent", 4, 0).is(1, "heads").is(5, "add", 0, 1).is(4, "parentOf", 5, 0);
    run.refuses(MISSING, "parentOf", 5, 1);
  }

  private static void parentOfNoSuchEventOrParent() {
    Run run = run("8: there is no such event").refuses(MISSING, "parentOf", 0, -1).refuses(MISSING, "parentOf", 0, 0).diamond();
    for (int k : new int[] {-1, 0, 1, MIN, MAX}) {
      run.refuses(MISSING, "parentOf", -1, k).refuses(MISSING, "parentOf", 8, k).refusesEach(MISSING, WHOLE_RANGE, 0, "parentOf", 0, k);
    }
    run = run("8: there is no such parent").diamond().refuses(MISSING, "parentOf", 0, 0).refuses(MISSING, "parentOf", 0, 1);
    run.is(4, "parentOf", 6, 0).is(5, "parentOf", 6, 1).refuses(MISSING, "parentOf", 6, 2).refuses(MISSING, "parentOf", 6, 16);
    run.is(6, "parentOf", 7, 0).refuses(MISSING, "parentOf", 7, 1);
    for (int place = 0; place < 8; place++) {
      run.refusesEach(MISSING, WHOLE_RANGE, 1, "parentOf", place, 0);
    }
    Run full = run("8: there is no such event beyond 8192").fullChain(9).is(8190, "parentOf", 8191, 0);
    full.refuses(MISSING, "parentOf", 8192, -1).refuses(MISSING, "parentOf", 8192, 0).refuses(MISSING, "parentOf", 8191, 1);
  }

  // Promises 9, 10 and 11: NoSuchElementException: one (of the two) is not there.

  private static void refusesPairs(Run run, String name, int size, int... limit) {
    int[] none = {-1, size, size + 1, 8192, 8193, -8192, MIN, MIN + 1, MAX, MAX - 1, 1 << 16};
    for (int place : none) {
      int[][] pairs = size == 0 ? new int[][] {{place, place}, {place, 0}, {0, place}}
          : new int[][] {{place, 0}, {0, place}, {place, size - 1}, {size - 1, place}, {place, place}};
      for (int[] pair : pairs) {
        int[] arguments = Arrays.copyOf(pair, 2 + limit.length);
        System.arraycopy(limit, 0, arguments, 2, limit.length);
        run.refuses(MISSING, name, arguments);
      }
    }
  }

  private static void relatedOfOneNotThere() {
    refusesPairs(run("9: one is not there, no event"), "related", 0);
    refusesPairs(run("9: one is not there").diamond(), "related", 8);
    Run full = run("9: one is not there, 8192 are").fullChain(1);
    refusesPairs(full, "related", 8192);
    full.is(1, "related", 0, 8191).is(2, "related", 8191, 0).is(0, "related", 8191, 8191).is(1, "related", 8190, 8191);
  }

  private static void apartOfOneNotThere() {
    refusesPairs(run("10: one is not there, no event"), "apart", 0);
    refusesPairs(run("10: one is not there").diamond(), "apart", 8);
    Run full = run("10: one is not there, 8192 are").fullChain(1);
    refusesPairs(full, "apart", 8192);
    full.is(8191, "apart", 8191, 0).is(0, "apart", 0, 8191).is(0, "apart", 8191, 8191).is(1, "apart", 8191, 8190);
  }

  private static void latestOfOneNotThere() {
    for (int limit : new int[] {MIN, -1, 0, 1, MAX}) {
      refusesPairs(run("11: one of the two is not there, no event"), "latest", 0, limit);
      refusesPairs(run("11: one of the two is not there").diamond(), "latest", 8, limit);
      refusesPairs(run("11: one of the two is not there, 8192 are").fullChain(1), "latest", 8192, limit);
    }
  }

  private static void apartOfSixteenAgents() {
    Run run = run("10: 8192 events of 16 agents").roots(15, 512).is(8190, "add", 255, 511);
    run.is(512, "apart", 511, 1023).is(512, "apart", 1023, 511).is(1, "apart", 0, 8190).is(511, "apart", 8190, 0);
    run.is(16, "heads").is(8191, "add", 255, 1).is(7680, "apart", 8191, 511).is(0, "apart", 511, 8191);
    run.is(8191, "apart", 8191, 0).is(7681, "apart", 8191, 8190).is(0, "apart", 8191, 8191);
    run.is(3, "related", 511, 512).is(3, "related", 8190, 0).is(1, "related", 8190, 8191).is(2, "related", 8191, 0);
    run.is(1023, "latest", 1023, 511, MAX).is(512, "latest", 1023, 511, 513).is(-1, "latest", 1023, 511, 512);
    run.is(7679, "latest", 8191, 8190, 8191).is(-1, "latest", 511, 8191, MAX).is(512, "latest", 8191, 511, 513);
    run.is(-1, "latest", 8191, 511, 512).is(1, "critical").is(8191, "base", MAX).is(-1, "base", 8191);
  }

  // Promise 11: whose place is the greatest below a limit; -1 if there is none.

  private static void latestBelowALimit() {
    Run run = run("11: the greatest below a limit").diamond();
    run.is(7, "latest", 7, 4, MAX).is(7, "latest", 7, 4, MAX - 1).is(7, "latest", 7, 4, 9).is(7, "latest", 7, 4, 8);
    run.is(6, "latest", 7, 4, 7).is(5, "latest", 7, 4, 6).is(4, "latest", 7, 5, 6).is(4, "latest", 7, 5, 5).is(3, "latest", 7, 5, 4);
    run.is(5, "latest", 5, 4, 6).is(2, "latest", 2, 0, 3).is(1, "latest", 2, 0, 2);
  }

  private static void latestOfNone() {
    Run run = run("11: -1 if there is none").diamond();
    for (int limit : new int[] {MIN, MIN + 1, -8192, -1, 0, 1, 5, 8, MAX}) {
      run.is(-1, "latest", 0, 0, limit).is(-1, "latest", 7, 7, limit).is(-1, "latest", 0, 7, limit).is(-1, "latest", 4, 6, limit);
    }
    for (int limit : new int[] {MIN, MIN + 1, -8192, -2, -1, 0, 1}) {
      run.is(-1, "latest", 7, 0, limit).is(-1, "latest", 1, 0, limit).is(-1, "latest", 7, 5, limit);
    }
    run.is(-1, "latest", 7, 4, 5).is(-1, "latest", 7, 5, 3).is(-1, "latest", 5, 4, 5).is(1, "latest", 7, 0, 2);

    Run roots = run("11: place 0 below limit 1").roots(2, 1).is(0, "latest", 0, 1, 1).is(-1, "latest", 0, 1, 0);
    roots.is(0, "latest", 0, 1, MAX).is(-1, "latest", 0, 1, MIN).is(1, "latest", 1, 0, 2).is(-1, "latest", 1, 0, 1);
    Run full = run("11: the last place").fullChain(1).is(8191, "latest", 8191, 0, MAX).is(8191, "latest", 8191, 0, 8192);
    full.is(8190, "latest", 8191, 0, 8191).is(1, "latest", 8191, 0, 2).is(-1, "latest", 8191, 0, 1).is(-1, "latest", 8191, 0, MIN);
  }

  // Promise 12: NoSuchElementException: no such head.

  private static void headOfNone() {
    int[] none = {-1, -2, 16, 17, 255, 256, 8191, 8192, MIN, MIN + 1, MAX, MAX - 1};
    run("12: no such head, no event").refuses(MISSING, "head", 0).refusesEach(MISSING, none, 0, "head", 0);
    Run one = run("12: no such head, one is there").diamond().is(7, "head", 0).refuses(MISSING, "head", 1);
    one.refusesEach(MISSING, none, 0, "head", 0);
    Run most = run("12: no such head, 16 are there").roots(16, 1).is(0, "head", 0).is(15, "head", 15);
    most.refusesEach(MISSING, none, 0, "head", 0).is(16, "heads").is(16, "add", 250, 1).is(16, "head", 0);
    most.refuses(MISSING, "head", 1).refuses(MISSING, "head", 15);
  }

  private static void headByRisingIds() {
    Run run = run("12: by rising ids").is(0, "add", 255, 1).is(1, "add", 0, 1).is(2, "add", 128, 1).is(3, "add", 127, 1);
    run.is(1, "head", 0).is(3, "head", 1).is(2, "head", 2).is(0, "head", 3).refuses(MISSING, "head", 4);
  }

  // Promise 13: How many events are critical.

  private static void criticalOfNone() {
    run("13: no event").is(0, "critical").is(0, "critical");
    run("13: none is critical").roots(2, 1).is(0, "critical");
    Run run = run("13: none is critical, 16 agents").roots(16, 512).is(0, "critical").is(16, "heads");
    run.refuses(STATE, "add", 240, 1).is(0, "critical");
  }

  private static void criticalOfOneAndAll() {
    Run run = run("13: one is critical, or all").is(0, "add", 9, 1).is(1, "critical").is(1, "heads").is(1, "add", 3, 1);
    run.is(2, "critical").is(1, "parent", 9, 0).is(2, "add", 4, 1).is(1, "critical");
    run.is(2, "heads").is(3, "add", 3, 1).is(2, "critical").is(4, "add", 5, 1).is(0, "critical");
    run("13: as many as there can be").fullChain(0).is(8192, "critical");
  }

  // Promise 14: The place of the latest critical event whose place is below a limit; -1 if there is
  // none.

  private static void baseBelowALimit() {
    Run run = run("14: the latest below a limit").diamond().is(7, "base", MAX).is(7, "base", MAX - 1).is(7, "base", 9);
    run.is(7, "base", 8).is(6, "base", 7).is(2, "base", 6).is(2, "base", 5).is(2, "base", 3).is(1, "base", 2).is(0, "base", 1);
    Run full = run("14: the last place").fullChain(7).is(8191, "base", MAX).is(8191, "base", 8192).is(8190, "base", 8191);
    full.is(0, "base", 1).is(-1, "base", 0).is(-1, "base", MIN);
  }

  private static void baseOfNone() {
    int[] all = {MIN, MIN + 1, -8192, -1, 0, 1, 2, 8191, 8192, MAX - 1, MAX};
    Run empty = run("14: -1 if there is none, no event");
    Run roots = run("14: -1 if there is none, none is critical").roots(2, 1);
    Run merged = run("14: -1 if there is none, none is below the limit").roots(2, 1).is(2, "heads").is(2, "add", 0, 1);
    for (int limit : all) {
      empty.is(-1, "base", limit);
      roots.is(-1, "base", limit);
      merged.is(limit > 2 ? 2 : -1, "base", limit);
    }
    Run chain = run("14: -1 if there is none, a limit too low").diamond();
    for (int limit : new int[] {MIN, MIN + 1, -8192, -2, -1, 0}) {
      chain.is(-1, "base", limit);
    }
  }

  // What is thrown is told in the order of testing; a call that throws changes nothing but what is
  // told.

  /** All that the diamond's questions answer, and last which events are on the list. */
  private static String state(EventSpans x) {
    StringBuilder text = new StringBuilder();
    for (int agent : new int[] {-1, 0, 2, 5, 7, 9, 255}) {
      text.append(outcome(x, "events", agent)).append(' ');
    }
    text.append(outcome(x, "critical"));
    for (int place = 0; place <= 8; place++) {
      text.append("\n").append(outcome(x, "id", place)).append(' ').append(outcome(x, "base", place)).append(' ');
      for (int k = -1; k <= 2; k++) {
        text.append(outcome(x, "parentOf", place, k)).append(' ').append(outcome(x, "head", k)).append(' ');
      }
      for (int other = 0; other <= 8; other++) {
        text.append(outcome(x, "related", place, other)).append(' ').append(outcome(x, "apart", place, other)).append(' ');
      }
    }
    for (int[] id : new int[][] {{5, 0}, {5, 1}, {5, 2}, {5, 3}, {7, 0}, {7, 1}, {2, 0}, {2, 1}}) {
      text.append(' ').append(outcome(x, "parent", id[0], id[1]));
    }
    return text.toString();
  }

  private static void refusedCallChangesNothing() {
    Run refused = run("a call that throws changes nothing").diamond().is(1, "parent", 7, 1).is(2, "parent", 5, 3);
    for (int bad : new int[] {MIN, -3, 256, MAX}) {
      refused.refuses(MISSING, "parent", bad, 0).refuses(MISSING, "parent", 5, bad).refuses(ARGUMENT, "add", bad, 1);
      refused.refuses(ARGUMENT, "events", bad).refuses(MISSING, "place", bad, 0).refuses(MISSING, "place", 5, bad);
      refused.refuses(MISSING, "id", bad).refuses(MISSING, "parentOf", bad, -1).refuses(MISSING, "parentOf", 6, bad);
      refused.refuses(MISSING, "related", bad, 0).refuses(MISSING, "apart", 0, bad).refuses(MISSING, "latest", bad, 0, 8);
      refused.refuses(MISSING, "head", bad);
    }
    refused.refuses(ARGUMENT, "add", 5, 0).refuses(ARGUMENT, "add", 9, 2001).refuses(UNSUPPORTED, "parent", 7, 1);
    Run spared = run("no call that throws").diamond().is(1, "parent", 7, 1).is(2, "parent", 5, 3);
    sameState(refused, spared);
  }

  private static void refusedAddEmptiesTheListAlone() {
    Run refused = run("an add that throws changes the list alone").diamond();
    refused.is(1, "parent", 7, 0).is(2, "parent", 7, 1).refuses(UNSUPPORTED, "add", 9, 1);
    refused.is(1, "parent", 7, 1).refuses(UNSUPPORTED, "add", 5, 2000);
    refused.is(1, "parent", 5, 1).is(2, "parent", 5, 0).refuses(UNSUPPORTED, "add", 5, 1);
    sameState(refused, run("no add that throws").diamond());
  }

  private static void sameState(Run refused, Run spared) {
    String got = state(refused.x);
    String want = state(spared.x);
    if (!got.equals(want)) {
      report(refused.sentence + ": the state is\n" + got + "\ndue is\n" + want);
    }
  }

  public static void main(String[] args) {
    newObjectHasNoEvent();
    newObjectHasNoAgent();
    newObjectHasAnEmptyList();
    newObjectSharesNothing();
    parentOfNoSuchEvent();
    parentOfOneOnTheList();
    parentWhereSixteenAre();
    parentTestsInOrder();
    headsOfNoHead();
    headsOfOneHead();
    headsOfSixteenHeads();
    addOfTheLeastAndTheMost();
    addOfNoAgent();
    addOfNoCount();
    addTestsTheRangeFirst();
    addEmptiesTheList();
    addWithAnAncestorOnTheList();
    addWithoutTheLatest();
    addWithTheLatest();
    addOfTooManyEvents();
    addOfTooManyAgents();
    addRefusedMakesNoAgent();
    addTestsTheParentsBeforeTheLimits();
    eventsOfAnAgent();
    eventsOfNoAgent();
    placeOfNoSuchEvent();
    idOfTheLeastAndTheMost();
    idOfNoPlace();
    parentOfCounts();
    parentOfRises();
    parentOfNoSuchEventOrParent();
    relatedOfOneNotThere();
    apartOfOneNotThere();
    latestOfOneNotThere();
    apartOfSixteenAgents();
    latestBelowALimit();
    latestOfNone();
    headOfNone();
    headByRisingIds();
    criticalOfNone();
    criticalOfOneAndAll();
    baseBelowALimit();
    baseOfNone();
    refusedCallChangesNothing();
    refusedAddEmptiesTheListAlone();
    System.out.println(wrong == 0 ? "all answers are as due" : wrong + " answers are not as due");
    if (wrong != 0) {
      System.exit(1);
    }
  }
}
