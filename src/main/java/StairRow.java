/**
 * A row of houses whose outside stairs lead to a neighbour's upper floor: which way a family has
 * home at which clock, and what a leave, a door, a bed or a quarrel changes in that.
 *
 * <p>Sets (of houses, families, rooms, clocks) are ints, a bit for each member. All that calls need
 * is made in the constructor and used again, so that no call makes an object.
 */
public final class StairRow {
  private static final int BEYOND = -1000001;
  private static final int FULL = BEYOND - 1;
  private static final int WRONG_KIND = BEYOND - 2;
  private static final int NONE = BEYOND - 3;
  private static final int STATE = BEYOND - 4;
  private static final int MISSING = BEYOND - 5;
  private static final int SIZE = BEYOND - 6;
  private static final int FINDINGS = 7;

  private static final int HOUSES = 8;
  private static final int ROOMS = 16;
  private static final int DOORS = 14;
  private static final int CLOCKS = 24;
  private static final int SPOTS = 10;
  private static final int SHEETS = 4;
  private static final int SETS = 1 << HOUSES;
  private static final int ALL_HOUSES = SETS - 1;
  private static final int GROUNDS = 0x5555;
  private static final int SHIFT_CLOCK = 20;
  private static final int MOST_GOSSIP = 12;
  private static final int BYTE = 255;

  private final Row row = new Row();
  private final Row draft = new Row();
  private final Row kept = new Row();
  private boolean keeps = false;
  private final Plan plan = new Plan();
  private final Tape tape = new Tape();
  private final Sheet[] sheets = new Sheet[SHEETS];
  private final int[] told = new int[FINDINGS];

  public StairRow() {
    for (int s = 0; s < sheets.length; s++) {
      sheets[s] = new Sheet();
    }
  }

  // ---- houses

  public int house(int kind) {
    if (!House.isKind(kind)) {
      return found(BEYOND);
    }
    if (row.isFull()) {
      return found(FULL);
    }
    return row.build(kind);
  }

  public int of(int house, int what) {
    House one = row.at(house);
    if (one == null || what < House.KIND || what > House.BED) {
      return found(BEYOND);
    }
    return one.tell(what);
  }

  public int change(int house, int what, int v) {
    House one = row.at(house);
    if (one == null || !row.canBecome(what, v)) {
      return found(BEYOND);
    }
    int was = one.tell(what);
    one.become(what, v);
    return was;
  }

  public int stair(int house, int way) {
    House one = row.at(house);
    if (one == null || !isStair(house, way)) {
      return found(BEYOND);
    }
    int was = one.stair;
    one.stair = way < 0 ? -1 : house - 1 + 2 * way;
    return was;
  }

  public int name(int house, int what, int family, boolean is) {
    House one = row.at(house);
    if (one == null || what < 0 || what > 1 || !isBelow(family, HOUSES)) {
      return found(BEYOND);
    }
    int was = what == 0 ? one.leave : one.foes;
    if (what == 0) {
      one.leave = marked(was, family, is);
    } else {
      one.foes = marked(was, family, is);
    }
    return isIn(was, family) ? 1 : 0;
  }

  public int door(int door, boolean open) {
    if (!isBelow(door, DOORS)) {
      return found(BEYOND);
    }
    int was = row.isOpen(door) ? 1 : 0;
    row.setDoor(door, open);
    return was;
  }

  public int lets(int house, int family, int clock) {
    House one = row.at(house);
    if (one == null || !isVisit(family, clock)) {
      return found(BEYOND);
    }
    return one.admits(family, clock, one.leave) ? 1 : 0;
  }

  public int letting(int family, int clock) {
    if (!isVisit(family, clock)) {
      return found(BEYOND);
    }
    return row.admitting(family, clock, 0, 0);
  }

  public int joined(int room) {
    if (!row.hasRoom(room)) {
      return found(BEYOND);
    }
    return row.besides(room);
  }

  // ---- ways

  public int way(int family, int room, int clock) {
    if (!isVisit(family, clock) || !row.hasRoom(room)) {
      return found(BEYOND);
    }
    plan.draw(row);
    int length = plan.shortest(room, row.admitting(family, clock, 0, 0));
    return length == 0 ? found(NONE) : length;
  }

  public int noise(int family, int room, int clock) {
    if (!isVisit(family, clock) || !row.hasRoom(room)) {
      return found(BEYOND);
    }
    plan.draw(row);
    plan.listen(row, clock);
    int least = plan.quietest(room, row.admitting(family, clock, 0, 0));
    return least < 0 ? found(NONE) : least;
  }

  public int step(int family, int clock, int i) {
    if (!isVisit(family, clock) || !isBelow(i, ROOMS)) {
      return found(BEYOND);
    }
    plan.draw(row);
    int room = plan.roomOnWay(row.homeOf(family), row.admitting(family, clock, 0, 0), i);
    return room < 0 ? found(NONE) : room;
  }

  public int reach(int family, int clock) {
    if (!isVisit(family, clock)) {
      return found(BEYOND);
    }
    plan.draw(row);
    return plan.reachable(row.admitting(family, clock, 0, 0));
  }

  public int off(int clock) {
    if (!isBelow(clock, CLOCKS)) {
      return found(BEYOND);
    }
    return cutOff(row, clock);
  }

  public int hours(int family) {
    if (!row.has(family)) {
      return found(BEYOND);
    }
    plan.draw(row);
    int set = 0;
    for (int clock = 0; clock < CLOCKS; clock++) {
      if (lengthHome(family, clock) == 0) {
        set |= 1 << clock;
      }
    }
    return set;
  }

  public int latest(int family) {
    if (!row.has(family)) {
      return found(BEYOND);
    }
    plan.draw(row);
    for (int clock = CLOCKS - 1; clock >= 0; clock--) {
      if (lengthHome(family, clock) > 0) {
        return clock;
      }
    }
    return found(NONE);
  }

  public int best(int family) {
    if (!row.has(family)) {
      return found(BEYOND);
    }
    plan.draw(row);
    int least = ROOMS + 1;
    int when = -1;
    for (int clock = 0; clock < CLOCKS; clock++) {
      int length = lengthHome(family, clock);
      if (length > 0 && length < least) {
        least = length;
        when = clock;
      }
    }
    return when < 0 ? found(NONE) : when;
  }

  // ---- leaves

  public int worth(int house, int clock) {
    if (!row.has(house) || !isBelow(clock, CLOCKS)) {
      return found(BEYOND);
    }
    draft.takeFrom(row);
    House one = draft.at(house);
    if (one != null) {
      one.leave = 0;
    }
    return cutOffMore(clock);
  }

  public int helps(int family, int clock) {
    if (!isVisit(family, clock)) {
      return found(BEYOND);
    }
    plan.draw(row);
    int home = row.homeOf(family);
    int now = row.admitting(family, clock, 0, 0);
    if (plan.shortest(home, now) > 0) {
      return 0;
    }
    int useful = row.admitting(family, clock, 0, ALL_HOUSES) & ~now;
    int set = 0;
    for (int h = 0; h < HOUSES; h++) {
      if (isIn(useful, h) && plan.shortest(home, now | (1 << h)) > 0) {
        set |= 1 << h;
      }
    }
    return set;
  }

  public int needs(int family, int clock) {
    if (!isVisit(family, clock)) {
      return found(BEYOND);
    }
    plan.draw(row);
    int set = fewestLeaves(family, clock);
    return set < 0 ? found(NONE) : set;
  }

  public int law(int clock) {
    if (!isBelow(clock, CLOCKS)) {
      return found(BEYOND);
    }
    plan.draw(row);
    int sum = 0;
    for (int family = 0; family < row.size; family++) {
      int set = fewestLeaves(family, clock);
      if (set < 0) {
        return found(NONE);
      }
      sum += Integer.bitCount(set);
    }
    return sum;
  }

  public int quarrel(int a, int b, int clock) {
    if (!row.has(a) || !row.has(b) || a == b || !isBelow(clock, CLOCKS)) {
      return found(BEYOND);
    }
    draft.takeFrom(row);
    House one = draft.at(a);
    House other = draft.at(b);
    if (one != null && other != null) {
      one.fallOut(b);
      other.fallOut(a);
    }
    return cutOffMore(clock);
  }

  public int ring(int house) {
    if (!row.has(house)) {
      return found(BEYOND);
    }
    int seen = 1 << house;
    int edge = seen;
    for (int length = 1; length <= row.size; length++) {
      int named = row.named(edge);
      if (isIn(named, house)) {
        return length;
      }
      edge = named & ~seen;
      seen |= edge;
    }
    return found(NONE);
  }

  public int share(int house, int family, int clock, int part) {
    if (!row.has(house) || !isVisit(family, clock) || part < 0 || part > 1) {
      return found(BEYOND);
    }
    plan.draw(row);
    int home = row.homeOf(family);
    int bare = row.admitting(family, clock, ALL_HOUSES, 0);
    int byLeave = row.admitting(family, clock, 0, 0) & ~bare;
    int self = byLeave & (1 << house);
    // A LEAVE that doesn't let this FAMILY in bears on no WAY: each doubles both numbers alike.
    int others = byLeave & ~(1 << house);
    int needed = countNeeded(home, bare, self, others);
    int all = 1 << Integer.bitCount(others);
    for (int k = 0; k < HOUSES && needed % 2 == 0 && all % 2 == 0; k++) {
      needed /= 2;
      all /= 2;
    }
    return part == 0 ? needed : all;
  }

  // ---- beds, fire, the shift

  public int beds(int house) {
    if (!row.has(house)) {
      return found(BEYOND);
    }
    return row.sleepingIn(house);
  }

  public int swaps() {
    int used = 0;
    for (int family = 0; family < row.size; family++) {
      used |= 1 << row.bedOf(family);
    }
    if (Integer.bitCount(used) != row.size) {
      return found(STATE);
    }
    int rounds = 0;
    int seen = 0;
    for (int family = 0; family < row.size; family++) {
      if (!isIn(seen, family)) {
        rounds++;
        seen |= row.bedRound(family);
      }
    }
    // A round of k FAMILIES takes k - 1 changes: each change can at best part one round in two.
    return row.size - rounds;
  }

  public int fire() {
    plan.draw(row);
    int longest = 0;
    for (int family = 0; family < row.size; family++) {
      int minutes = plan.shortest(row.homeOf(family), ALL_HOUSES);
      if (minutes == 0) {
        return found(NONE);
      }
      longest = Math.max(longest, minutes);
    }
    return longest;
  }

  public int open(int clock) {
    if (!isBelow(clock, CLOCKS)) {
      return found(BEYOND);
    }
    draft.takeFrom(row);
    int fewest = HOUSES + 1;
    int which = -1;
    for (int d = 0; d < DOORS; d++) {
      if (!row.isOpen(d)) {
        draft.setDoor(d, true);
        int many = Integer.bitCount(cutOff(draft, clock));
        draft.setDoor(d, false);
        if (many < fewest) {
          fewest = many;
          which = d;
        }
      }
    }
    return which < 0 ? found(NONE) : which;
  }

  public int shift() {
    row.shiftBeds();
    return Integer.bitCount(cutOff(row, SHIFT_CLOCK));
  }

  public int gossip(int n) {
    if (n < 1 || n > MOST_GOSSIP) {
      return found(BEYOND);
    }
    if (row.size == 0) {
      return found(STATE);
    }
    for (int k = 0; k < n; k++) {
      int family = row.drawBelow(row.size);
      House one = row.at(row.drawBelow(row.size));
      if (one != null) {
        one.leave |= 1 << family;
      }
    }
    return row.pairs();
  }

  public int seed(int v) {
    int was = row.z;
    row.z = v;
    return was;
  }

  // ---- texts

  public int feed(int bytes, int n) {
    if (n < 1 || n > 4) {
      return found(BEYOND);
    }
    if (n > tape.free()) {
      return found(FULL);
    }
    for (int k = n - 1; k >= 0; k--) {
      tape.add((bytes >>> (8 * k)) & BYTE);
    }
    return tape.size;
  }

  public int wipe() {
    int had = tape.size;
    tape.size = 0;
    return had;
  }

  public int text() {
    draft.takeFrom(row);
    int items = tape.readInto(draft);
    tape.size = 0;
    if (items >= 0) {
      row.takeFrom(draft);
    }
    return items;
  }

  // ---- spots, sheets

  public int hold(int spot, int house) {
    if (!isBelow(spot, SPOTS) || house != -1 && !row.has(house)) {
      return found(BEYOND);
    }
    put(row.spots, spot, house);
    return 1;
  }

  public int as(int spot, int kind) {
    if (!isBelow(spot, SPOTS) || !House.isKind(kind)) {
      return found(BEYOND);
    }
    House one = row.at(cell(row.spots, spot));
    if (one == null) {
      return found(MISSING);
    }
    return one.isOne(kind) ? one.number : found(WRONG_KIND);
  }

  public int sheet(int s, int bits, int n) {
    Sheet it = sheetAt(s);
    if (it == null || bits != 0 && bits != 8 && bits != 16 && bits != 32) {
      return found(BEYOND);
    }
    if (n < 0) {
      return found(SIZE);
    }
    if (n > Sheet.MOST) {
      return found(BEYOND);
    }
    it.renew(bits, n);
    return it.size;
  }

  public int write(int s, int i, int v) {
    Sheet it = sheetAt(s);
    if (it == null) {
      return found(BEYOND);
    }
    if (it.isMissing()) {
      return found(MISSING);
    }
    if (!isBelow(i, it.size)) {
      return found(BEYOND);
    }
    it.set(i, v);
    return 1;
  }

  public int copy(int s, int from, int t, int to, int n) {
    Sheet source = sheetAt(s);
    Sheet target = sheetAt(t);
    if (source == null || target == null) {
      return found(BEYOND);
    }
    if (source.isMissing() || target.isMissing()) {
      return found(MISSING);
    }
    if (source.bits != target.bits) {
      return found(WRONG_KIND);
    }
    if (!source.hasRange(from, n) || !target.hasRange(to, n)) {
      return found(BEYOND);
    }
    System.arraycopy(source.numbers, from, target.numbers, to, n);
    return n;
  }

  public int load(int s) {
    Sheet it = sheetAt(s);
    if (it == null) {
      return found(BEYOND);
    }
    if (it.isMissing()) {
      return found(MISSING);
    }
    int many = Math.min(it.size, row.size);
    for (int h = 0; h < many; h++) {
      House one = row.at(h);
      if (one != null) {
        one.leave = cell(it.numbers, h) & BYTE;
      }
    }
    return many;
  }

  public int judge(int s, int family, int clock) {
    Sheet it = sheetAt(s);
    if (it == null) {
      return found(BEYOND);
    }
    if (it.isMissing()) {
      return found(MISSING);
    }
    if (!isVisit(family, clock)) {
      return found(BEYOND);
    }
    plan.draw(row);
    int may = roomsOf(row.admitting(family, clock, 0, 0));
    int next = GROUNDS & may;
    int last = -1;
    for (int i = 0; i < it.size; i++) {
      int room = cell(it.numbers, i);
      if (!isBelow(room, ROOMS) || !isIn(next, room)) {
        return 1 + i;
      }
      next = plan.jointsOf(room) & may;
      last = room;
    }
    return last == row.homeOf(family) ? 0 : 1 + it.size;
  }

  // ---- images

  public int image() {
    kept.takeFrom(row);
    keeps = true;
    return 1;
  }

  public int undo() {
    if (!keeps) {
      return found(NONE);
    }
    row.takeFrom(kept);
    return row.size;
  }

  public int tear() {
    int was = keeps ? 1 : 0;
    keeps = false;
    return was;
  }

  public int count(int what) {
    switch (what) {
      case 0:
        return row.size;
      case 1:
        return Integer.bitCount(row.doors);
      case 2:
        return row.countStairs();
      case 3:
        return row.countSleepers();
      case 4:
        return tape.size;
      case 5:
        return row.z;
      case 6:
        return row.countHeld();
      default:
        return found(BEYOND);
    }
  }

  public int status(int which) {
    if (which < -1 || which >= FINDINGS) {
      return found(BEYOND);
    }
    if (which >= 0) {
      return cell(told, which);
    }
    int sum = 0;
    for (int f = 0; f < told.length; f++) {
      sum += told[f];
    }
    return sum;
  }

  // ---- what the acts share

  private int found(int finding) {
    int which = BEYOND - finding;
    put(told, which, cell(told, which) + 1);
    return finding;
  }

  private boolean isVisit(int family, int clock) {
    return row.has(family) && isBelow(clock, CLOCKS);
  }

  private Sheet sheetAt(int s) {
    return s < 0 || s >= sheets.length ? null : sheets[s];
  }

  /** The plan must be that of the row. */
  private int lengthHome(int family, int clock) {
    return plan.shortest(row.homeOf(family), row.admitting(family, clock, 0, 0));
  }

  private int cutOff(Row some, int clock) {
    plan.draw(some);
    int set = 0;
    for (int family = 0; family < some.size; family++) {
      int letting = some.admitting(family, clock, 0, 0);
      if (plan.shortest(some.homeOf(family), letting) == 0) {
        set |= 1 << family;
      }
    }
    return set;
  }

  /** How many more are CUT OFF in the draft than in the row. */
  private int cutOffMore(int clock) {
    return Integer.bitCount(cutOff(draft, clock)) - Integer.bitCount(cutOff(row, clock));
  }

  /** The set that needs() tells, or -1: none helps. The plan must be that of the row. */
  private int fewestLeaves(int family, int clock) {
    int home = row.homeOf(family);
    int now = row.admitting(family, clock, 0, 0);
    if (plan.shortest(home, now) > 0) {
      return 0;
    }
    int useful = row.admitting(family, clock, 0, ALL_HOUSES) & ~now;
    if (plan.shortest(home, now | useful) == 0) {
      return -1;
    }
    int fewest = useful;
    for (int set = 1; set < SETS; set++) {
      boolean isFewer = Integer.bitCount(set) < Integer.bitCount(fewest);
      if (isFewer && (set & ~useful) == 0 && plan.shortest(home, now | set) > 0) {
        fewest = set;
      }
    }
    return fewest;
  }

  /** In how many sets of others the way home hangs on the HOUSE self, where bare let in anyway. */
  private int countNeeded(int home, int bare, int self, int others) {
    int needed = 0;
    for (int set = 0; set < SETS && self != 0; set++) {
      if ((set & ~others) == 0
          && plan.shortest(home, bare | set | self) > 0
          && plan.shortest(home, bare | set) == 0) {
        needed++;
      }
    }
    return needed;
  }

  private static boolean isStair(int house, int way) {
    boolean leadsOut = way == 0 && house == 0 || way == 1 && house == HOUSES - 1;
    return way >= -1 && way <= 1 && !leadsOut;
  }

  private static boolean isBelow(int number, int bound) {
    return number >= 0 && number < bound;
  }

  private static boolean isIn(int set, int member) {
    return ((set >> member) & 1) != 0;
  }

  private static int marked(int set, int member, boolean is) {
    return is ? set | 1 << member : set & ~(1 << member);
  }

  private static int cell(int[] cells, int i) {
    return i < 0 || i >= cells.length ? 0 : cells[i];
  }

  private static void put(int[] cells, int i, int v) {
    if (i >= 0 && i < cells.length) {
      cells[i] = v;
    }
  }

  private static int roomsOf(int houses) {
    int rooms = 0;
    for (int h = 0; h < HOUSES; h++) {
      if (isIn(houses, h)) {
        rooms |= 3 << (2 * h);
      }
    }
    return rooms;
  }

  /** One HOUSE, and the BED of the FAMILY that lives in it. */
  private static final class House {
    private static final int STRICT = 1;
    private static final int OPEN = 2;
    private static final int INN = 3;
    private static final int GUARD = 4;
    private static final int SICK = 5;
    private static final int QUARREL = 6;
    private static final int[] ABOVE = {-1, 0, 0, 2, 1, 0, 1};

    private static final int KIND = 0;
    private static final int STAIR = 1;
    private static final int LEAVE = 2;
    private static final int FROM = 3;
    private static final int TO = 4;
    private static final int FOES = 5;
    private static final int SLEEPERS = 6;
    private static final int BED = 7;

    private static final int STRICT_UNTIL = 20;
    private static final int SICK_SINCE = 7;
    private static final int NOON = 12;
    private static final int NIGHT_SINCE = 22;
    private static final int NIGHT_UNTIL = 6;
    private static final int MOST_SLEEPERS = 9;

    private int number;
    private int kind;
    private int stair;
    private int leave;
    private int from;
    private int to;
    private int foes;
    private int sleepers;
    private int bed;

    private static boolean isKind(int kind) {
      return isBelow(kind, ABOVE.length);
    }

    private void renew(int itsNumber, int itsKind) {
      number = itsNumber;
      kind = itsKind;
      stair = -1;
      leave = 0;
      from = 6;
      to = 22;
      foes = 0;
      sleepers = 2;
      bed = itsNumber;
    }

    private void takeFrom(House other) {
      number = other.number;
      kind = other.kind;
      stair = other.stair;
      leave = other.leave;
      from = other.from;
      to = other.to;
      foes = other.foes;
      sleepers = other.sleepers;
      bed = other.bed;
    }

    private int tell(int what) {
      switch (what) {
        case KIND:
          return kind;
        case STAIR:
          return stair;
        case LEAVE:
          return leave;
        case FROM:
          return from;
        case TO:
          return to;
        case FOES:
          return foes;
        case SLEEPERS:
          return sleepers;
        default:
          return bed;
      }
    }

    private void become(int what, int v) {
      switch (what) {
        case KIND:
          kind = v;
          break;
        case FROM:
          from = v;
          break;
        case TO:
          to = v;
          break;
        case SLEEPERS:
          sleepers = v;
          break;
        case BED:
          bed = v;
          break;
        default:
          break;
      }
    }

    private boolean isOne(int wanted) {
      int as = kind;
      for (int level = 0; level < ABOVE.length && isKind(as); level++) {
        if (as == wanted) {
          return true;
        }
        as = cell(ABOVE, as);
      }
      return false;
    }

    private boolean isInHours(int clock) {
      if (from > to) {
        return clock >= from || clock <= to;
      }
      return clock >= from && clock <= to;
    }

    /** LETS, if its LEAVE were leaves: what a leave is worth is asked without changing it. */
    private boolean admits(int family, int clock, int leaves) {
      if (family == number) {
        return true;
      }
      boolean inHours = isInHours(clock);
      boolean asHouse = inHours && isIn(leaves, family);
      boolean asStrict = asHouse && clock < STRICT_UNTIL;
      switch (kind) {
        case STRICT:
          return asStrict;
        case OPEN:
          return inHours;
        case INN:
          return true;
        case SICK:
          return asHouse && clock < STRICT_UNTIL && clock >= SICK_SINCE;
        case GUARD:
          return asStrict || clock == NOON;
        case QUARREL:
          return asStrict && !isIn(foes, family);
        default:
          return asHouse;
      }
    }

    private int wakes(int clock) {
      if (kind == INN) {
        return 0;
      }
      int many = clock >= NIGHT_SINCE || clock < NIGHT_UNTIL ? sleepers : 0;
      return kind == SICK ? many + 1 : many;
    }

    private void fallOut(int family) {
      leave = marked(leave, family, false);
      foes = marked(foes, family, true);
    }
  }

  /** All that an image keeps: HOUSES, DOORS, SPOTS and z. */
  private static final class Row {
    private final House[] houses = new House[HOUSES];
    private int size = 0;
    private int doors = 0;
    private int z = 1;
    private final int[] spots = new int[SPOTS];

    private Row() {
      for (int h = 0; h < houses.length; h++) {
        houses[h] = new House();
      }
      for (int spot = 0; spot < spots.length; spot++) {
        spots[spot] = -1;
      }
    }

    private void takeFrom(Row other) {
      size = other.size;
      doors = other.doors;
      z = other.z;
      for (int h = 0; h < size; h++) {
        House mine = at(h);
        House theirs = other.at(h);
        if (mine != null && theirs != null) {
          mine.takeFrom(theirs);
        }
      }
      for (int spot = 0; spot < SPOTS; spot++) {
        put(spots, spot, cell(other.spots, spot));
      }
    }

    private House at(int h) {
      return h < 0 || h >= size || h >= houses.length ? null : houses[h];
    }

    private boolean has(int h) {
      return isBelow(h, size);
    }

    private boolean hasRoom(int room) {
      return isBelow(room, 2 * size);
    }

    private boolean isFull() {
      return size >= HOUSES;
    }

    /** The number of the new HOUSE; there must be place for it. */
    private int build(int kind) {
      int h = size;
      size++;
      House one = at(h);
      if (one != null) {
        one.renew(h, kind);
      }
      return h;
    }

    private boolean canBecome(int what, int v) {
      switch (what) {
        case House.KIND:
          return House.isKind(v);
        case House.FROM:
        case House.TO:
          return isBelow(v, CLOCKS);
        case House.SLEEPERS:
          return v >= 0 && v <= House.MOST_SLEEPERS;
        case House.BED:
          return has(v);
        default:
          return false;
      }
    }

    private boolean isOpen(int d) {
      return isBelow(d, DOORS) && isIn(doors, d);
    }

    private void setDoor(int d, boolean isOpen) {
      doors = marked(doors, d, isOpen);
    }

    private int stairOf(int h) {
      House one = at(h);
      return one == null ? -1 : one.stair;
    }

    private int bedOf(int family) {
      House one = at(family);
      return one == null ? family : one.bed;
    }

    private int homeOf(int family) {
      return 2 * bedOf(family) + 1;
    }

    /** The DOOR behind a ROOM has its number: it leads two ROOMS on, on the same floor. */
    private int besides(int room) {
      int set = 0;
      if (isOpen(room) && hasRoom(room + 2)) {
        set |= 1 << (room + 2);
      }
      if (isOpen(room - 2)) {
        set |= 1 << (room - 2);
      }
      int h = room / 2;
      if (room % 2 == 0) {
        int leads = stairOf(h);
        return has(leads) ? set | 1 << (2 * leads + 1) : set;
      }
      for (int g = 0; g < size; g++) {
        if (stairOf(g) == h) {
          set |= 1 << (2 * g);
        }
      }
      return set;
    }

    /** HOUSES that let in, if those of emptied had no LEAVE and those of giving gave it theirs. */
    private int admitting(int family, int clock, int emptied, int giving) {
      int set = 0;
      for (int h = 0; h < size; h++) {
        House one = at(h);
        if (one != null) {
          int leaves = isIn(emptied, h) ? 0 : one.leave;
          leaves = isIn(giving, h) ? leaves | 1 << family : leaves;
          if (one.admits(family, clock, leaves)) {
            set |= 1 << h;
          }
        }
      }
      return set;
    }

    private int wakesIn(int room, int clock) {
      House one = at(room / 2);
      return one == null || room % 2 == 0 ? 0 : one.wakes(clock);
    }

    /** HOUSES whose FAMILY another one of the set has in LEAVE. */
    private int named(int set) {
      int all = 0;
      for (int h = 0; h < size; h++) {
        House one = at(h);
        if (one != null && isIn(set, h)) {
          all |= one.leave & ~(1 << h);
        }
      }
      return all & ((1 << size) - 1);
    }

    private int pairs() {
      int many = 0;
      for (int h = 0; h < size; h++) {
        many += Integer.bitCount(named(1 << h));
      }
      return many;
    }

    private int sleepingIn(int house) {
      int set = 0;
      for (int family = 0; family < size; family++) {
        if (bedOf(family) == house) {
          set |= 1 << family;
        }
      }
      return set;
    }

    /** The FAMILIES met from one on, if one goes on to the FAMILY whose HOUSE it sleeps in. */
    private int bedRound(int family) {
      int set = 0;
      int next = family;
      for (int k = 0; k < size && !isIn(set, next); k++) {
        set |= 1 << next;
        next = bedOf(next);
      }
      return set;
    }

    private void shiftBeds() {
      for (int family = 0; family < size; family++) {
        House one = at(family);
        if (one != null) {
          one.bed = one.bed + 1 < size ? one.bed + 1 : 0;
        }
      }
    }

    private int drawBelow(int bound) {
      z = z * 1103515245 + 12345;
      return bound > 0 ? (z >>> 8) % bound : 0;
    }

    private int countStairs() {
      int many = 0;
      for (int h = 0; h < size; h++) {
        many += stairOf(h) >= 0 ? 1 : 0;
      }
      return many;
    }

    private int countSleepers() {
      int sum = 0;
      for (int h = 0; h < size; h++) {
        House one = at(h);
        sum += one == null ? 0 : one.sleepers;
      }
      return sum;
    }

    private int countHeld() {
      int many = 0;
      for (int spot = 0; spot < spots.length; spot++) {
        many += spots[spot] >= 0 ? 1 : 0;
      }
      return many;
    }
  }

  /** The ROOMS of a row and what joins them, drawn once for many searches. */
  private static final class Plan {
    private static final int UNHEARD = -1;

    private final int[] joints = new int[ROOMS];
    private final int[] wakes = new int[ROOMS];
    private final int[] layers = new int[ROOMS];
    private final int[] noises = new int[ROOMS];

    private void draw(Row row) {
      for (int room = 0; room < ROOMS; room++) {
        put(joints, room, row.hasRoom(room) ? row.besides(room) : 0);
      }
    }

    private void listen(Row row, int clock) {
      for (int room = 0; room < ROOMS; room++) {
        put(wakes, room, row.wakesIn(room, clock));
      }
    }

    private int jointsOf(int room) {
      return cell(joints, room);
    }

    private int besidesAny(int rooms) {
      int set = 0;
      for (int room = 0; room < ROOMS; room++) {
        if (isIn(rooms, room)) {
          set |= cell(joints, room);
        }
      }
      return set;
    }

    private int reachable(int letting) {
      int may = roomsOf(letting);
      int seen = GROUNDS & may;
      int edge = seen;
      for (int k = 0; k < ROOMS && edge != 0; k++) {
        edge = besidesAny(edge) & may & ~seen;
        seen |= edge;
      }
      return seen;
    }

    /**
     * The least LENGTH of a WAY to a ROOM through HOUSES that let in, 0: none. It goes back from
     * the ROOM, so that the layers then tell for each ROOM met how far it has yet to go.
     */
    private int shortest(int room, int letting) {
      int may = roomsOf(letting);
      int edge = (1 << room) & may;
      int seen = edge;
      for (int k = 0; k < ROOMS && edge != 0; k++) {
        put(layers, k, edge);
        if ((edge & GROUNDS) != 0) {
          return k + 1;
        }
        edge = besidesAny(edge) & may & ~seen;
        seen |= edge;
      }
      return 0;
    }

    private int roomOnWay(int home, int letting, int i) {
      int length = shortest(home, letting);
      if (i >= length) {
        return -1;
      }
      int next = GROUNDS;
      int room = -1;
      for (int k = 0; k <= i; k++) {
        room = least(next & cell(layers, length - 1 - k));
        next = cell(joints, room);
      }
      return room;
    }

    private static int least(int rooms) {
      for (int room = 0; room < ROOMS; room++) {
        if (isIn(rooms, room)) {
          return room;
        }
      }
      return -1;
    }

    /** The least NOISE of a WAY to a ROOM, UNHEARD: there is none. */
    private int quietest(int room, int letting) {
      int may = roomsOf(letting);
      for (int r = 0; r < ROOMS; r++) {
        put(noises, r, isIn(GROUNDS & may, r) ? 0 : UNHEARD);
      }
      boolean changes = true;
      for (int k = 0; k < ROOMS && changes; k++) {
        changes = false;
        for (int r = 0; r < ROOMS; r++) {
          changes |= goOnFrom(r, may);
        }
      }
      return isBelow(room, ROOMS) ? cell(noises, room) : UNHEARD;
    }

    private boolean goOnFrom(int room, int may) {
      if (cell(noises, room) == UNHEARD) {
        return false;
      }
      // A ROOM's own wakes count only where a WAY goes on from it: the last one wakes nobody.
      int noise = cell(noises, room) + cell(wakes, room);
      int next = cell(joints, room) & may;
      boolean changes = false;
      for (int r = 0; r < ROOMS; r++) {
        int was = cell(noises, r);
        if (isIn(next, r) && (was == UNHEARD || was > noise)) {
          put(noises, r, noise);
          changes = true;
        }
      }
      return changes;
    }
  }

  /** Numbers of 8, 16 or 32 bits; of 0 bits: it is MISSING. */
  private static final class Sheet {
    private static final int MOST = 40;

    private int bits = 0;
    private int size = 0;
    private final int[] numbers = new int[MOST];

    private boolean isMissing() {
      return bits == 0;
    }

    private void renew(int itsBits, int n) {
      bits = itsBits;
      size = itsBits == 0 ? 0 : n;
      for (int i = 0; i < numbers.length; i++) {
        numbers[i] = 0;
      }
    }

    private void set(int i, int v) {
      if (bits == 8) {
        put(numbers, i, (byte) v);
      } else if (bits == 16) {
        put(numbers, i, (short) v);
      } else {
        put(numbers, i, v);
      }
    }

    /** Asked by taking away, as from + n may wrap. */
    private boolean hasRange(int first, int n) {
      return first >= 0 && n >= 0 && first <= size && n <= size - first;
    }
  }

  /** THE TAPE, and the reading of the TEXT on it. */
  private static final class Tape {
    private static final int MOST = 120;
    private static final int MOST_NUMBER = 999;

    private static final int END = 0;
    private static final int WORD = 1;
    private static final int NUMBER = 2;
    private static final int SIGN = 3;
    private static final int BAD = 4;

    // The words of the kinds stand ahead, each at the number of its kind.
    private static final int LEFT = 7;
    private static final int RIGHT = 8;
    private static final int FROM = 9;
    private static final int TO = 10;
    private static final int SLEEPERS = 11;
    private static final int LEAVE = 12;
    private static final int FOES = 13;
    private static final int DOOR = 14;
    private static final int BED = 15;
    private static final int IN = 16;
    private static final int WORDS = 17;

    private final int[] bytes = new int[MOST];
    private int size = 0;
    private final int[] sorts = new int[MOST + 1];
    private final int[] values = new int[MOST + 1];
    private final int[] places = new int[MOST + 1];
    private int tokens = 0;
    private int here = 0;

    private int free() {
      return MOST - size;
    }

    private void add(int one) {
      if (size < MOST) {
        put(bytes, size, one);
        size++;
      }
    }

    /** How many ITEMS a row was told, or -1 less the FAULT: the row is half told then. */
    private int readInto(Row row) {
      findTokens();
      here = 0;
      for (int items = 1; items <= MOST; items++) {
        if (!readItem(row)) {
          return -1 - cell(places, here);
        }
        int sort = cell(sorts, here);
        if (sort == END) {
          return items;
        }
        if (sort != SIGN) {
          return -1 - cell(places, here);
        }
        here++;
      }
      return -1 - size;
    }

    // Each of these leaves off at the TOKEN that can't stand there, and tells false.

    private boolean readItem(Row row) {
      if (cell(sorts, here) != WORD) {
        return false;
      }
      int word = cell(values, here);
      if (House.isKind(word)) {
        return readHouse(row, word);
      }
      switch (word) {
        case LEAVE:
        case FOES:
          here++;
          return readNames(row, word == LEAVE);
        case DOOR:
          here++;
          return readDoor(row);
        case BED:
          here++;
          return readBed(row);
        default:
          return false;
      }
    }

    private boolean readHouse(Row row, int kind) {
      if (row.isFull()) {
        return false;
      }
      here++;
      int h = row.build(kind);
      House one = row.at(h);
      return one != null && readStair(one, h) && readHours(one) && readSleepers(one);
    }

    private boolean readStair(House one, int h) {
      if (!isWordHere(LEFT) && !isWordHere(RIGHT)) {
        return true;
      }
      int way = isWordHere(LEFT) ? 0 : 1;
      if (!isStair(h, way)) {
        return false;
      }
      here++;
      one.stair = h - 1 + 2 * way;
      return true;
    }

    private boolean readHours(House one) {
      if (!isWordHere(FROM)) {
        return true;
      }
      here++;
      int from = takeNumber(CLOCKS);
      if (from < 0 || !isWordHere(TO)) {
        return false;
      }
      here++;
      int to = takeNumber(CLOCKS);
      if (to < 0) {
        return false;
      }
      one.from = from;
      one.to = to;
      return true;
    }

    private boolean readSleepers(House one) {
      if (!isWordHere(SLEEPERS)) {
        return true;
      }
      here++;
      int many = takeNumber(House.MOST_SLEEPERS + 1);
      if (many < 0) {
        return false;
      }
      one.sleepers = many;
      return true;
    }

    private boolean readNames(Row row, boolean isLeave) {
      House one = row.at(takeNumber(row.size));
      if (one == null) {
        return false;
      }
      int family = takeNumber(HOUSES);
      for (int k = 0; k < MOST && family >= 0; k++) {
        if (isLeave) {
          one.leave |= 1 << family;
        } else {
          one.foes |= 1 << family;
        }
        if (cell(sorts, here) != NUMBER) {
          return true;
        }
        family = takeNumber(HOUSES);
      }
      return false;
    }

    private boolean readDoor(Row row) {
      int door = takeNumber(DOORS);
      if (door < 0) {
        return false;
      }
      row.setDoor(door, true);
      return true;
    }

    private boolean readBed(Row row) {
      House one = row.at(takeNumber(row.size));
      if (one == null || !isWordHere(IN)) {
        return false;
      }
      here++;
      int bed = takeNumber(row.size);
      if (bed < 0) {
        return false;
      }
      one.bed = bed;
      return true;
    }

    private boolean isWordHere(int word) {
      return cell(sorts, here) == WORD && cell(values, here) == word;
    }

    /** The NUMBER here, and on to the next TOKEN; -1 if none below the bound stands here. */
    private int takeNumber(int bound) {
      int number = cell(values, here);
      if (cell(sorts, here) != NUMBER || !isBelow(number, bound)) {
        return -1;
      }
      here++;
      return number;
    }

    private void findTokens() {
      tokens = 0;
      int at = 0;
      for (int k = 0; k < MOST && at < size; k++) {
        if (cell(bytes, at) == ' ') {
          at++;
        } else {
          at = addTokenAt(at);
        }
      }
      addToken(END, 0, size);
    }

    /** Where the TOKEN that begins at a place ends. */
    private int addTokenAt(int at) {
      int end = endOf('a', 'z', at);
      if (end > at) {
        addToken(WORD, wordBetween(at, end), at);
        return end;
      }
      end = endOf('0', '9', at);
      if (end > at) {
        int number = numberBetween(at, end);
        addToken(number > MOST_NUMBER ? BAD : NUMBER, number, at);
        return end;
      }
      addToken(cell(bytes, at) == ';' ? SIGN : BAD, 0, at);
      return at + 1;
    }

    private void addToken(int sort, int value, int place) {
      put(sorts, tokens, sort);
      put(values, tokens, value);
      put(places, tokens, place);
      tokens++;
    }

    private int endOf(char first, char last, int at) {
      int end = at;
      while (end < size && cell(bytes, end) >= first && cell(bytes, end) <= last) {
        end++;
      }
      return end;
    }

    /** As many digits as there are make a NUMBER, so it stops growing once it is too high. */
    private int numberBetween(int at, int end) {
      int number = 0;
      for (int i = at; i < end && number <= MOST_NUMBER; i++) {
        number = 10 * number + cell(bytes, i) - '0';
      }
      return number;
    }

    private int wordBetween(int at, int end) {
      for (int word = 0; word < WORDS; word++) {
        if (isWritten(letters(word), at, end)) {
          return word;
        }
      }
      return -1;
    }

    private boolean isWritten(String word, int at, int end) {
      if (word.length() != end - at) {
        return false;
      }
      for (int i = 0; i < word.length(); i++) {
        if (word.charAt(i) != cell(bytes, at + i)) {
          return false;
        }
      }
      return true;
    }

    private static String letters(int word) {
      switch (word) {
        case 0:
          return "house";
        case House.STRICT:
          return "strict";
        case House.OPEN:
          return "open";
        case House.INN:
          return "inn";
        case House.GUARD:
          return "guard";
        case House.SICK:
          return "sick";
        case House.QUARREL:
          return "quarrel";
        case LEFT:
          return "left";
        case RIGHT:
          return "right";
        case FROM:
          return "from";
        case TO:
          return "to";
        case SLEEPERS:
          return "sleepers";
        case LEAVE:
          return "leave";
        case FOES:
          return "foes";
        case DOOR:
          return "door";
        case BED:
          return "bed";
        default:
          return "in";
      }
    }
  }
}
