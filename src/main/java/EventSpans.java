import java.util.Arrays;
import java.util.NoSuchElementException;

/**
 * A graph of events that peers make, each with its parents.
 *
 * The latest event of an agent is always in the history of its next one, so the events of one
 * agent are a chain, and what a history has of an agent is the events from number 0 up to some
 * number. A history is therefore told by one count for each agent, and the events that one call
 * of add brings differ in the count of their own agent alone: they are kept as one span.
 */
public final class EventSpans {
  private static final int MOST_EVENTS = 8192;
  private static final int MOST_AGENTS = 16;
  private static final int MOST_LISTED = 16;
  private static final int MOST_AT_ONCE = 2000;
  private static final int AGENT_NAMES = 256;

  /** An agent that has events. */
  private static final class Agent {
    final int name;
    final int slot;
    int count = 0;
    int latestPlace = -1;
    boolean isHead = false;
    Span newestSpan = null;

    Agent(int name, int slot) {
      this.name = name;
      this.slot = slot;
    }
  }

  /** The events of one add: each but the first has the one before it as its only parent. */
  private static final class Span {
    final Agent agent;
    final int first;
    final int last;
    final int firstNumber;
    final int[] parents;
    final int[] seen;
    final boolean seesAllBefore;
    final Span before;
    final Span beforeOfAgent;

    /** seen: how many events of each slot are in the history of the first event, with itself. */
    Span(Agent agent, int first, int n, int[] parents, int[] seen, Span before) {
      this.agent = agent;
      this.first = first;
      this.last = first + n - 1;
      this.firstNumber = agent.count;
      this.parents = parents;
      this.seen = seen;
      this.seesAllBefore = sum(seen) == first + 1;
      this.before = before;
      this.beforeOfAgent = agent.newestSpan;
    }

    private static int sum(int[] counts) {
      int sum = 0;
      for (int count : counts) {
        sum += count;
      }
      return sum;
    }

    int numberAt(int place) {
      return firstNumber + place - first;
    }

    int placeOfNumber(int number) {
      return first + number - firstNumber;
    }

    boolean hasNumber(int number) {
      return number >= firstNumber && number <= numberAt(last);
    }

    int seenAt(int place, int slot) {
      return slot == agent.slot ? numberAt(place) + 1 : seen[slot];
    }

    int newestParent() {
      return parents.length == 0 ? -1 : parents[parents.length - 1];
    }
  }

  private final Agent[] agents;
  private int agentCount;
  private final Span[] spans;
  private int eventCount;
  private Span newestSpan;
  private final int[] listed;
  private int listSize;

  public EventSpans() {
    agents = new Agent[AGENT_NAMES];
    agentCount = 0;
    spans = new Span[MOST_EVENTS];
    eventCount = 0;
    newestSpan = null;
    listed = new int[MOST_LISTED];
    listSize = 0;
  }

  public int parent(int agent, int number)
      throws NoSuchElementException, UnsupportedOperationException, IllegalStateException {
    int place = find(agent, number);
    if (isListed(place)) {
      throw new UnsupportedOperationException();
    }
    if (listSize >= MOST_LISTED) {
      throw new IllegalStateException();
    }
    putOnList(place);
    return listSize;
  }

  public int heads() {
    listSize = 0;
    for (Agent agent : agents) {
      if (agent != null && agent.isHead) {
        putOnList(agent.latestPlace);
      }
    }
    return listSize;
  }

  public int add(int agent, int n)
      throws IllegalArgumentException, UnsupportedOperationException, IllegalStateException {
    if (!isAgentName(agent) || n < 1 || n > MOST_AT_ONCE) {
      throw new IllegalArgumentException();
    }
    int[] parents = takeList();
    int[] seen = seenFrom(parents);
    Agent maker = agents[agent];
    if (holdsAncestor(parents) || (maker != null && seen[maker.slot] < maker.count)) {
      throw new UnsupportedOperationException();
    }
    if (eventCount + n > MOST_EVENTS || (maker == null && agentCount >= MOST_AGENTS)) {
      throw new IllegalStateException();
    }
    endHeads(parents);
    append(maker == null ? newAgent(agent) : maker, n, parents, seen);
    return eventCount - 1;
  }

  public int events(int agent) throws IllegalArgumentException {
    if (agent == -1) {
      return eventCount;
    }
    if (!isAgentName(agent)) {
      throw new IllegalArgumentException();
    }
    return agents[agent] == null ? 0 : agents[agent].count;
  }

  public int place(int agent, int number) throws NoSuchElementException {
    return find(agent, number);
  }

  public long id(int place) throws NoSuchElementException {
    Span span = spanOf(place);
    return ((long) span.agent.name << 32) + span.numberAt(place);
  }

  public int parentOf(int place, int k) throws NoSuchElementException {
    Span span = spanOf(place);
    boolean isFirst = place == span.first;
    int count = isFirst ? span.parents.length : 1;
    if (k == -1) {
      return count;
    }
    if (k < 0 || k >= count) {
      throw new NoSuchElementException();
    }
    return isFirst ? span.parents[k] : place - 1;
  }

  public int related(int place, int other) throws NoSuchElementException {
    if (isAncestor(place, other)) {
      return 1;
    }
    if (isAncestor(other, place)) {
      return 2;
    }
    return place == other ? 0 : 3;
  }

  public int apart(int place, int other) throws NoSuchElementException {
    Span span = spanOf(place);
    Span otherSpan = spanOf(other);
    int count = 0;
    for (int slot = 0; slot < MOST_AGENTS; slot++) {
      count += Math.max(0, span.seenAt(place, slot) - otherSpan.seenAt(other, slot));
    }
    return count;
  }

  public int latest(int place, int other, int limit) throws NoSuchElementException {
    Span span = spanOf(place);
    Span otherSpan = spanOf(other);
    int highest = highestBelow(limit);
    for (Span s = newestSpan; s != null; s = s.before) {
      int slot = s.agent.slot;
      int lastSeen = s.placeOfNumber(span.seenAt(place, slot) - 1);
      int firstUnseen = s.placeOfNumber(otherSpan.seenAt(other, slot));
      int top = Math.min(highest, Math.min(s.last, lastSeen));
      if (top >= Math.max(s.first, firstUnseen)) {
        return top;
      }
    }
    return -1;
  }

  public int head(int k) throws NoSuchElementException {
    int rank = 0;
    for (Agent agent : agents) {
      if (agent != null && agent.isHead) {
        if (rank == k) {
          return agent.latestPlace;
        }
        rank++;
      }
    }
    throw new NoSuchElementException();
  }

  // Parents come before their children. So an event has all lower places as ancestors or is not
  // critical; and all higher places have it as an ancestor if, and only if, each of them has a
  // parent that is not below it. Within a span the parent is the place before: only the first
  // event of each later span can miss it, and misses all that is above its newest parent.

  public int critical() {
    int count = 0;
    int missedAbove = eventCount;
    for (Span s = newestSpan; s != null; s = s.before) {
      int top = Math.min(missedAbove, s.last);
      if (s.seesAllBefore && top >= s.first) {
        count += top - s.first + 1;
      }
      missedAbove = Math.min(missedAbove, s.newestParent());
    }
    return count;
  }

  public int base(int limit) {
    int highest = highestBelow(limit);
    for (Span s = newestSpan; s != null; s = s.before) {
      int top = Math.min(highest, s.last);
      if (s.seesAllBefore && top >= s.first) {
        return top;
      }
      highest = Math.min(highest, s.newestParent());
    }
    return -1;
  }

  private static boolean isAgentName(int agent) {
    return agent >= 0 && agent < AGENT_NAMES;
  }

  /** The limit may be the lowest int, from which 1 can't be taken. */
  private static int highestBelow(int limit) {
    return Math.max(limit, 0) - 1;
  }

  private Span spanOf(int place) {
    if (place < 0 || place >= MOST_EVENTS || spans[place] == null) {
      throw new NoSuchElementException();
    }
    return spans[place];
  }

  private int find(int agent, int number) {
    if (!isAgentName(agent) || agents[agent] == null) {
      throw new NoSuchElementException();
    }
    for (Span s = agents[agent].newestSpan; s != null; s = s.beforeOfAgent) {
      if (s.hasNumber(number)) {
        return s.placeOfNumber(number);
      }
    }
    throw new NoSuchElementException();
  }

  private boolean isAncestor(int place, int other) {
    Span span = spanOf(place);
    Span otherSpan = spanOf(other);
    return place != other && otherSpan.seenAt(other, span.agent.slot) > span.numberAt(place);
  }

  private boolean isListed(int place) {
    for (int i = 0; i < listSize; i++) {
      if (listed[i] == place) {
        return true;
      }
    }
    return false;
  }

  /** Keeps the list by rising places, as parentOf asks for them. */
  private void putOnList(int place) {
    if (listSize >= MOST_LISTED) {
      return;
    }
    int at = listSize;
    while (at > 0 && listed[at - 1] > place) {
      listed[at] = listed[at - 1];
      at--;
    }
    listed[at] = place;
    listSize++;
  }

  private int[] takeList() {
    int[] taken = Arrays.copyOf(listed, listSize);
    listSize = 0;
    return taken;
  }

  private int[] seenFrom(int[] parents) {
    int[] seen = new int[MOST_AGENTS];
    for (int place : parents) {
      Span span = spanOf(place);
      for (int slot = 0; slot < MOST_AGENTS; slot++) {
        seen[slot] = Math.max(seen[slot], span.seenAt(place, slot));
      }
    }
    return seen;
  }

  private boolean holdsAncestor(int[] parents) {
    for (int place : parents) {
      for (int other : parents) {
        if (isAncestor(place, other)) {
          return true;
        }
      }
    }
    return false;
  }

  private void endHeads(int[] parents) {
    for (int place : parents) {
      Agent agent = spanOf(place).agent;
      if (agent.latestPlace == place) {
        agent.isHead = false;
      }
    }
  }

  private Agent newAgent(int name) {
    Agent agent = new Agent(name, agentCount);
    agents[name] = agent;
    agentCount++;
    return agent;
  }

  private void append(Agent agent, int n, int[] parents, int[] seen) {
    seen[agent.slot] = agent.count + 1;
    Span span = new Span(agent, eventCount, n, parents, seen, newestSpan);
    for (int place = span.first; place <= span.last; place++) {
      spans[place] = span;
    }
    agent.count += n;
    agent.latestPlace = span.last;
    agent.isHead = true;
    agent.newestSpan = span;
    eventCount += n;
    newestSpan = span;
  }
}
