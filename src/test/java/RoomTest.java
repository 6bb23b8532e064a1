import java.lang.management.ManagementFactory;

/**
 * All calls of a run live in one room, so an object makes its rows when it is made itself, and its
 * calls make nothing more.
 */
public final class RoomTest {
    private static final int OBJECTS = 200;
    // an object with all that belongs to it; some 2,300 elements of four bytes
    private static final long MOST_OF_AN_OBJECT = 20000;
    // measuring makes a little itself
    private static final long MOST_OF_ALL_CALLS = 4000;

    private static final com.sun.management.ThreadMXBean THREADS =
            (com.sun.management.ThreadMXBean) ManagementFactory.getThreadMXBean();

    private static final String TABLE = "aCBE,bA,cE,dEDA,eBEC,fDAC,gBED,hACB";

    private static long made() {
        return THREADS.getThreadAllocatedBytes(Thread.currentThread().getId());
    }

    private static long allCalls(SpellTables x) {
        long sum = 0;
        for (int place = 0; place < TABLE.length(); place++) {
            sum += x.letter(TABLE.charAt(place));
        }
        sum += x.fault() + x.table();
        for (int rule = 0; rule < 8; rule++) {
            sum += x.letter('a' + rule);
        }
        sum += x.turn() + x.letter('A') + x.blank() + x.letter('A') + x.text();
        for (int a = -1; a < 9; a++) {
            sum += x.mark(a) + x.ink(a) + x.back(a) + x.backAt(a) + x.ways() + x.first(a);
            sum += x.clash(a) + x.clashAt(a) + x.ahead(a) + x.parting(a) + x.count(a);
            sum += x.rule(a, a) + x.sign(a, 1, 0) + x.clashing(a, 0) + x.aheadAt(a, 0);
            sum += x.trial(40, a, 0) + x.digest();
        }
        return sum + x.drop(3) + x.digest();
    }

    public static void main(String[] args) {
        long sum = allCalls(new SpellTables());
        made();
        SpellTables[] objects = new SpellTables[OBJECTS];
        long before = made();
        for (int number = 0; number < OBJECTS; number++) {
            objects[number] = new SpellTables();
        }
        long ofObjects = (made() - before) / OBJECTS;
        before = made();
        for (SpellTables object : objects) {
            sum += allCalls(object);
        }
        long ofCalls = made() - before;
        System.out.println("bytes: " + ofObjects + " an object, " + ofCalls + " by all calls of "
                + OBJECTS + " (sum " + sum + ")");
        if (ofObjects > MOST_OF_AN_OBJECT || ofCalls > MOST_OF_ALL_CALLS) {
            System.out.println("that is too much");
            System.exit(1);
        }
    }
}
