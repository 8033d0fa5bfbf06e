import com.sun.management.ThreadMXBean;
import java.lang.management.ManagementFactory;

/** The calls use the rows that the constructor has made: none of them makes anything that is kept or dropped. */
public final class RoomTest {
    private static final Check check = new Check("RoomTest");
    private static final ThreadMXBean THREADS = (ThreadMXBean) ManagementFactory.getThreadMXBean();
    private static final long OBJECT_BYTES = 100_000;
    private static final long RUN_BYTES = 100_000;
    private static final int RUNS = 50;

    private static long bytes() {
        return THREADS.getThreadAllocatedBytes(Thread.currentThread().getId());
    }

    private static void appendAll(FaceZones x, String text) {
        for (int n = 0; n < text.length(); n++) {
            x.append(text.charAt(n));
        }
    }

    private static long run(FaceZones x) {
        x.clearText();
        appendAll(x, "X2f0123f1011f0234t210");
        long sum = x.errorPosition() + x.load() + x.addForm(2) - x.remove(3) + x.twin(4);
        sum += x.undo() + x.addFace(1, 1, 2, 1) + x.save(0) + x.restore(0) + x.setLeast(2) + x.setTwin(1, 1, 0);
        for (int z = 0; z < 5; z++) {
            sum += x.zone(z, 0) + x.cross(z, z + 1, 3) + x.face(z, 7) + x.face(z, 8) + x.angle(z, 2) + x.about(z);
        }
        sum += x.setSystem(2) + x.zoneOf(0, 1) + x.inZone(1, 2, 3) + (x.sameForm(0, 1) ? 1 : 0);
        sum += x.whyNot(1, 2, 3, 0) + x.bestTwin() + x.keyFace() + x.grown(3);
        return sum + x.runScript(3, 101004000070012L) + x.simulate(7, 99);
    }

    public static void main(String[] args) {
        run(new FaceZones());
        // An object for each run, because it answers for 512 calls alone.
        FaceZones[] objects = new FaceZones[RUNS];
        long start = bytes();
        for (int n = 0; n < RUNS; n++) {
            objects[n] = new FaceZones();
        }
        long made = (bytes() - start) / RUNS;
        check.isTrue("an object takes " + made + " bytes, at most " + OBJECT_BYTES, made <= OBJECT_BYTES);
        start = bytes();
        long sum = 0;
        for (FaceZones object : objects) {
            sum += run(object);
        }
        long used = bytes() - start;
        check.isTrue("runs use " + used + " bytes, at most " + RUN_BYTES + " (" + sum + ")", used <= RUN_BYTES);
        System.out.println("an object: " + made + " bytes; " + RUNS + " runs: " + used + " bytes");
        check.end();
    }
}
