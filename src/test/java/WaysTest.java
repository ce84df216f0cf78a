/** Promises 11 to 18: ways, their length and noise, who is cut off and when. */
public final class WaysTest {
  private static final Due DUE = new Due();
  private static final int[] EXTREMES = {-1, Integer.MIN_VALUE, Integer.MAX_VALUE};

  public static void main(String[] args) {
    promise11Way();
    promise12NoiseByDetour();
    promise12NoiseByKind();
    promise13Step();
    promise13StepOfSeveral();
    promise14Reach();
    promise15Off();
    promise16And17And18Clocks();
    promise18Best();
    DUE.end();
  }

  /** Houses in whose upper rooms one goes on by doors from the stair of house 0. */
  private static StairRow gallery(int many) {
    StairRow x = Due.openRow(many);
    x.stair(0, 1);
    for (int h = 1; h + 1 < many; h++) {
      x.door(2 * h + 1, true);
    }
    return x;
  }

  private static void promise11Way() {
    StairRow x = gallery(8);
    for (int h = 0; h < 8; h++) {
      DUE.is("11 to a ground", x.way(3, 2 * h, 12), 1);
    }
    DUE.is("11 no stair to 0", x.way(3, 1, 12), Due.NONE);
    for (int h = 1; h < 8; h++) {
      DUE.is("11 to upper " + h, x.way(3, 2 * h + 1, 12), h + 1);
    }
    Due.leave(x, 4, 0);
    DUE.is("11 not through 4", x.way(3, 11, 12), Due.NONE);
    DUE.is("11 not into 4", x.way(3, 9, 12), Due.NONE);
    DUE.is("11 not into 4's ground", x.way(3, 8, 12), Due.NONE);
    DUE.is("11 up to 4", x.way(3, 7, 12), 4);
    DUE.is("11 its own one", x.way(4, 15, 12), 8);
    x.change(0, 4, 11);
    DUE.is("11 too late", x.way(4, 15, 12), Due.NONE);
    DUE.is("11 in hours", x.way(4, 15, 11), 8);
    DUE.is("11 room 16", x.way(0, 16, 0), Due.BEYOND);
    DUE.is("11 clock 24", x.way(0, 0, 24), Due.BEYOND);
    DUE.is("11 family 8", x.way(8, 0, 0), Due.BEYOND);
    for (int no : EXTREMES) {
      DUE.is("11 family", x.way(no, 0, 0), Due.BEYOND);
      DUE.is("11 room", x.way(0, no, 0), Due.BEYOND);
      DUE.is("11 clock", x.way(0, 0, no), Due.BEYOND);
    }
    Due.leave(x, 0, 0);
    x.change(0, 4, 23);
    DUE.is("11 not in by house 0", x.way(3, 3, 12), Due.NONE);
    DUE.is("12 not in by house 0", x.noise(3, 3, 12), Due.NONE);
    DUE.is("14 not in by house 0", x.reach(3, 12), 4 | 16 | 64 | 1 << 10 | 1 << 12 | 1 << 14);
    StairRow down = Due.openRow(2);
    down.stair(0, 1);
    Due.leave(down, 0, 0);
    DUE.is("11 down one's own stair: the street is nearer", down.way(0, 0, 5), 1);
    DUE.is("11 room 4 of 2 houses", down.way(0, 4, 5), Due.BEYOND);
  }

  private static void promise12NoiseByDetour() {
    // To upper 3: by uppers 1 and 2, or by ground doors to ground 4, whose stair leads there.
    StairRow x = gallery(5);
    DUE.is("12 at noon", x.noise(3, 7, 12), 0);
    DUE.is("12 at 23: uppers 1 and 2, not the last", x.noise(3, 7, 23), 4);
    DUE.is("12 to upper 1 nobody wakes", x.noise(3, 3, 23), 0);
    DUE.is("12 no way", x.noise(3, 1, 23), Due.NONE);
    x.change(1, 6, 0);
    DUE.is("12 one sleeps without any", x.noise(3, 7, 22), 2);
    DUE.is("12 at 21", x.noise(3, 7, 21), 0);
    DUE.is("12 at 5", x.noise(3, 7, 5), 2);
    DUE.is("12 at 6", x.noise(3, 7, 6), 0);
    x.change(3, 6, 9);
    DUE.is("12 to upper 4 through 3", x.noise(3, 9, 0), 11);
    x.stair(4, 0);
    DUE.is("12 the longer or the stiller", x.noise(3, 7, 0), 0);
    DUE.is("12 way to it", x.way(3, 7, 0), 2);
    DUE.is("12 back to upper 2", x.noise(3, 5, 0), 0);
    StairRow detour = Due.openRow(4);
    detour.stair(1, 0);
    detour.door(1, true);
    detour.door(3, true);
    detour.stair(2, 0);
    detour.change(1, 6, 9);
    detour.change(0, 6, 1);
    DUE.is("12 straight", detour.noise(2, 5, 23), 9);
    detour.stair(3, 0);
    DUE.is("12 by another stair", detour.noise(2, 5, 23), 0);
    Due.leave(detour, 3, 0);
    DUE.is("12 not let in there", detour.noise(2, 5, 23), 9);
    DUE.is("12 long and still or short and loud", longAndStill().noise(1, 3, 23), 0);
    DUE.is("12 its length is no least", longAndStill().way(1, 3, 23), 3);
    DUE.is("12 room 10", x.noise(0, 10, 0), Due.BEYOND);
    DUE.is("12 clock 24", x.noise(0, 0, 24), Due.BEYOND);
    DUE.is("12 family 5", x.noise(5, 0, 0), Due.BEYOND);
    for (int no : EXTREMES) {
      DUE.is("12 family", x.noise(no, 0, 0), Due.BEYOND);
      DUE.is("12 room", x.noise(0, no, 0), Due.BEYOND);
      DUE.is("12 clock", x.noise(0, 0, no), Due.BEYOND);
    }
  }

  /** To upper 1: over upper 0 (3 rooms, loud), or over uppers 4, 3 and 2 (5 rooms, still). */
  private static StairRow longAndStill() {
    StairRow x = Due.openRow(6);
    x.stair(1, 0);
    x.door(1, true);
    x.stair(5, 0);
    x.door(7, true);
    x.door(5, true);
    x.door(3, true);
    for (int h = 2; h < 5; h++) {
      x.change(h, 6, 0);
    }
    return x;
  }

  private static void promise12NoiseByKind() {
    int[] night = {2, 2, 2, 0, 2, 3, 2};
    int[] day = {0, 0, 0, 0, 0, 1, 0};
    for (int kind = 0; kind < 7; kind++) {
      // Family 1 lives in the house whose upper room it goes through, so that any kind lets it.
      StairRow x = Due.openRow(3);
      x.change(1, 0, kind);
      x.stair(0, 1);
      x.door(3, true);
      DUE.is("12 kind " + kind + " at 22", x.noise(1, 5, 22), night[kind]);
      DUE.is("12 kind " + kind + " at 0", x.noise(1, 5, 0), night[kind]);
      DUE.is("12 kind " + kind + " at 12", x.noise(1, 5, 12), day[kind]);
      DUE.is("12 kind " + kind + " last", x.noise(1, 3, 22), 0);
      x.change(1, 6, 9);
      DUE.is("12 kind " + kind + ", 9 sleep", x.noise(1, 5, 5), kind == 3 ? 0 : 7 + night[kind]);
    }
  }

  private static void promise13Step() {
    StairRow x = gallery(6);
    int[] rooms = {0, 3, 5, 7, 9, 11};
    for (int i = 0; i < 6; i++) {
      DUE.is("13 step " + i, x.step(5, 12, i), rooms[i]);
    }
    for (int i = 6; i < 16; i++) {
      DUE.is("13 behind the last", x.step(5, 12, i), Due.NONE);
    }
    DUE.is("13 i 16", x.step(5, 12, 16), Due.BEYOND);
    DUE.is("13 no way", x.step(0, 12, 0), Due.NONE);
    x.change(0, 7, 3);
    DUE.is("13 home is the bed", x.step(0, 12, 3), 7);
    DUE.is("13 home is the bed", x.step(0, 12, 4), Due.NONE);
    DUE.is("13 family 6", x.step(6, 12, 0), Due.BEYOND);
    DUE.is("13 clock 24", x.step(0, 24, 0), Due.BEYOND);
    for (int no : EXTREMES) {
      DUE.is("13 family", x.step(no, 0, 0), Due.BEYOND);
      DUE.is("13 clock", x.step(0, no, 0), Due.BEYOND);
      DUE.is("13 i", x.step(0, 0, no), Due.BEYOND);
    }
  }

  private static void promise13StepOfSeveral() {
    StairRow x = Due.openRow(3);
    x.stair(0, 1);
    x.stair(2, 0);
    DUE.is("13 two stairs, the least ground", x.step(1, 12, 0), 0);
    Due.leave(x, 0, 0);
    DUE.is("13 the other one", x.step(1, 12, 0), 4);
    // To upper 2: by 0 3 5, or by 2 5, the shorter.
    x = Due.openRow(4);
    x.stair(0, 1);
    x.door(3, true);
    x.stair(1, 1);
    DUE.is("13 the shorter goes ahead", x.step(2, 12, 0), 2);
    DUE.is("13 then", x.step(2, 12, 1), 5);
    // To upper 2 in three: 0 3 5 or 4 7 5.
    x = Due.openRow(4);
    x.stair(0, 1);
    x.stair(2, 1);
    x.door(3, true);
    x.door(5, true);
    DUE.is("13 first of several", x.step(2, 12, 0), 0);
    DUE.is("13 next of several", x.step(2, 12, 1), 3);
    DUE.is("13 last of several", x.step(2, 12, 2), 5);
    Due.leave(x, 0, 0);
    DUE.is("13 the other of several", x.step(2, 12, 0), 4);
    DUE.is("13 its next", x.step(2, 12, 1), 7);
    // To upper 3 in three: 2 5 7 or 6 5 7.
    x = Due.openRow(4);
    x.stair(1, 1);
    x.stair(3, 0);
    x.door(5, true);
    DUE.is("13 equal lengths", x.step(3, 12, 0), 2);
    DUE.is("13 equal lengths", x.step(3, 12, 2), 7);
  }

  private static void promise14Reach() {
    StairRow x = gallery(4);
    DUE.is("14 all but upper 0", x.reach(1, 12), 0xff & ~2);
    Due.leave(x, 2, 0);
    DUE.is("14 2 is shut", x.reach(1, 12), 1 | 4 | 8 | 64);
    DUE.is("14 but for its own", x.reach(2, 12), 0xff & ~2);
    x.change(0, 3, 13);
    DUE.is("14 0 is shut", x.reach(2, 12), 4 | 16 | 64);
    DUE.is("14 then not", x.reach(2, 13), 0xff & ~2);
    DUE.is("14 family 4", x.reach(4, 0), Due.BEYOND);
    DUE.is("14 clock 24", x.reach(0, 24), Due.BEYOND);
    for (int no : EXTREMES) {
      DUE.is("14 family", x.reach(no, 0), Due.BEYOND);
      DUE.is("14 clock", x.reach(0, no), Due.BEYOND);
    }
    DUE.is("14 eight houses", gallery(8).reach(0, 0), 0xffff & ~2);
  }

  private static void promise15Off() {
    DUE.is("15 no houses", new StairRow().off(0), 0);
    StairRow x = gallery(4);
    DUE.is("15 family 0", x.off(12), 1);
    Due.leave(x, 2, 1 << 3);
    DUE.is("15 family 2 and 3 still go", x.off(12), 1);
    Due.leave(x, 2, 0);
    DUE.is("15 family 3 not", x.off(12), 1 | 8);
    x.change(0, 7, 1);
    DUE.is("15 with another bed", x.off(12), 8);
    x.change(3, 7, 1);
    DUE.is("15 nobody", x.off(12), 0);
    Due.leave(x, 1, 0);
    DUE.is("15 no leave where it sleeps", x.off(12), 1 | 4 | 8);
    DUE.is("15 clock 24", x.off(24), Due.BEYOND);
    for (int no : EXTREMES) {
      DUE.is("15 clock", x.off(no), Due.BEYOND);
    }
  }

  private static void promise16And17And18Clocks() {
    StairRow x = Due.row(3, 0);
    x.stair(0, 1);
    x.name(0, 0, 1, true);
    x.change(0, 3, 8);
    x.change(0, 4, 17);
    int day = 0;
    for (int clock = 8; clock <= 17; clock++) {
      day |= 1 << clock;
    }
    DUE.is("16 hours", x.hours(1), 0xffffff & ~day);
    DUE.is("17 latest", x.latest(1), 17);
    DUE.is("18 best", x.best(1), 8);
    DUE.is("16 always", x.hours(0), 0xffffff);
    DUE.is("17 never", x.latest(0), Due.NONE);
    DUE.is("18 never", x.best(0), Due.NONE);
    x.change(0, 0, 3);
    DUE.is("16 never off", x.hours(1), 0);
    DUE.is("17 at 23", x.latest(1), 23);
    DUE.is("18 at 0", x.best(1), 0);
    x.change(0, 0, 0);
    x.change(0, 3, 23);
    x.change(0, 4, 0);
    DUE.is("16 round over 0", x.hours(1), 0x7ffffe);
    DUE.is("17 round over 0", x.latest(1), 23);
    DUE.is("18 round over 0", x.best(1), 0);
    x.change(0, 3, 0);
    DUE.is("16 at 0 alone", x.hours(1), 0xfffffe);
    DUE.is("17 at 0 alone", x.latest(1), 0);
    DUE.is("18 at 0 alone", x.best(1), 0);
    for (int no : new int[] {3, -1, Integer.MIN_VALUE, Integer.MAX_VALUE}) {
      DUE.is("16 family", x.hours(no), Due.BEYOND);
      DUE.is("17 family", x.latest(no), Due.BEYOND);
      DUE.is("18 family", x.best(no), Due.BEYOND);
    }
  }

  private static void promise18Best() {
    // Over upper 0 at all hours in three rooms; straight up at 15 and 16 in two.
    StairRow x = Due.openRow(4);
    x.stair(1, 0);
    x.door(1, true);
    x.stair(2, 0);
    x.change(2, 3, 15);
    x.change(2, 4, 16);
    DUE.is("18 the shortest, not the first", x.best(1), 15);
    DUE.is("18 latest is another", x.latest(1), 23);
    x.stair(2, -1);
    DUE.is("18 now all are even", x.best(1), 0);
  }
}
