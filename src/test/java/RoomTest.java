import java.lang.management.ManagementFactory;

/** How much a new object makes, and what the calls of one object make: far less than the room that a run has. */
public final class RoomTest {
    private static final com.sun.management.ThreadMXBean ROOM =
            (com.sun.management.ThreadMXBean) ManagementFactory.getThreadMXBean();
    /** A run has 600,000 objects and 7.3 million fields and elements: some 40 million bytes. */
    private static final int NEW_OBJECT = 64 * 1024;
    private static final int ALL_CALLS = 1024 * 1024;
    private static final int ROUNDS = 5;
    private static int wrong = 0;

    public static void main(String[] args) {
        newObject();
        calls();
        System.out.println(wrong == 0 ? "there is room" : wrong + " faults");
        if (wrong != 0) {
            System.exit(1);
        }
    }

    private static long taken() {
        return ROOM.getCurrentThreadAllocatedBytes();
    }

    private static void most(String what, long bytes, long most) {
        if (bytes > most) {
            wrong++;
            System.out.println(what + " took " + bytes + " bytes, " + most + " at most");
        }
    }

    private static void newObject() {
        new NineOnGrass();
        long before = taken();
        NineOnGrass x = new NineOnGrass();
        long bytes = taken() - before;
        most("a new object", bytes, NEW_OBJECT);
        if (x.judge() != NineOnGrass.NONE) {
            wrong++;
        }
    }

    private static void calls() {
        NineOnGrass x = new NineOnGrass();
        String text = "ball 0" + " way 4 pace 2 for 3 way 0 pace 3 air 3 for 1".repeat(4) + ";ball 1 way 12 pace 9 for 5;";
        int[] fours = new int[5 * (text.length() / 20 + 1)];
        for (int i = 0; i < 4 * fours.length; i++) {
            fours[i / 4] = fours[i / 4] << 8 | (i < text.length() ? text.charAt(i) : ' ');
        }
        long before = taken();
        for (int i = 0; i < ROUNDS; i++) {
            round(x, fours, text.length());
        }
        most("all calls", taken() - before, ALL_CALLS);
    }

    private static void round(NineOnGrass x, int[] fours, int length) {
        for (int i = 0; i + 5 <= fours.length; i += 5) {
            x.feed(fours[i], fours[i + 1], fours[i + 2], fours[i + 3], fours[i + 4]);
        }
        if (x.field(length) != 2) {
            wrong++;
            System.out.println("field");
        }
        x.tray(0, 1, 9);
        for (int f = 0; f < 9; f++) {
            x.write(0, f, 59 + 17 * f + (f % 2));
            x.fielder(f, 2, 80, 10, 1);
        }
        x.stand(0, 42);
        x.pour(0);
        x.batter(1, 50);
        x.way(0, 0);
        x.settle(0, 50);
        x.way(1, 0);
        x.way(1, 1);
        x.rest(0, 1, 0, 1);
        x.walk(0, 1);
        x.tells(0, 1);
        x.bowl();
        x.match(0, 0, 6, 0);
        x.one(0, 0);
        x.mean(0);
        x.bound(0);
        x.gap(0);
        x.worth(0, 0);
        x.brave(0, 0, 7);
        x.both(0, 7);
        x.book(0, 0, 99);
        x.learn(0);
        x.ends(0, 0, true);
        x.enough(0, 0, 1);
        x.chase(true);
        x.play(0, 60, 1);
        x.image(0);
        x.restore(0);
        x.cost(0, 0);
        x.tick(0, 0, 1);
        x.hit(0, 0, 4);
        x.judge();
        x.count(11);
    }
}
