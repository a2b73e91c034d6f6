import java.lang.management.ManagementFactory;
import java.util.Random;

/** Any arguments in any state: no call throws, calls make no objects, and the same calls give the same answers. */
public final class SoundTest {
    private static final Checks CHECKS = new Checks();
    private static final int[] EDGES = {Integer.MIN_VALUE, Integer.MIN_VALUE + 1, -256, -2, -1, 0, 1, 2, 3, 7, 8, 9, 10,
        11, 12, 14, 15, 16, 17, 28, 39, 40, 41, 127, 128, 199, 200, 201, 255, 256, 299, 300, 301, 2000, 3000, 3001,
        Integer.MAX_VALUE - 1, Integer.MAX_VALUE};

    private SoundTest() {
    }

    public static void main(String[] args) {
        for (int seed = 0; seed < 300; seed++) {
            sameAnswers(seed);
        }
        noObjectsByCalls();
        CHECKS.finish();
    }

    private static void sameAnswers(int seed) {
        long first = sumOfRun(seed);
        CHECKS.due("run " + seed + " once more", sumOfRun(seed), first);
    }

    private static long sumOfRun(int seed) {
        Random random = new Random(seed);
        WirelessCell cell = seed % 2 == 0 ? new WirelessCell() : Cells.keyed(1 + seed % 4);
        long sum = 0;
        for (int i = 0; i < 600; i++) {
            try {
                sum = 31 * sum + anyCall(cell, random);
            } catch (RuntimeException e) {
                e.printStackTrace(System.out);
                CHECKS.holds("run " + seed + ": no call throws", false);
            }
        }
        return sum;
    }

    private static int number(Random random) {
        int kind = random.nextInt(4);
        return kind == 0 ? EDGES[random.nextInt(EDGES.length)] : kind == 1 ? random.nextInt() : random.nextInt(9);
    }

    private static int anyCall(WirelessCell cell, Random random) {
        int a = number(random);
        int b = number(random);
        int c = number(random);
        int soon = cell.count(0) + random.nextInt(20);
        switch (random.nextInt(34)) {
            case 0: case 1: return cell.feed(a, b, c, a, b);
            case 2: return cell.end(a);
            case 3: return cell.alter(a, b);
            case 4: case 5: return cell.check();
            case 6: case 7: return cell.copy(a);
            case 8: return cell.tape(a);
            case 9: return cell.secret(a, b, c, a, b);
            case 10: return cell.known(a, b, c, a, b);
            case 11: return cell.nonce(a, b, c, a, b);
            case 12: return cell.size(a);
            case 13: return cell.limit(a);
            case 14: return cell.draw(a);
            case 15: return cell.noise(a, b);
            case 16: return cell.noise(soon, soon + (a & 15));
            case 17: return cell.put(a);
            case 18: case 19: return cell.put(soon);
            case 20: return cell.join(a);
            case 21: return cell.leave(a, b);
            case 22: case 23: return cell.submit(a, b);
            case 24: return cell.go(a);
            case 25: case 26: return cell.go(a & 63);
            case 27: return cell.ended(a);
            case 28: return cell.node(a, b);
            case 29: return cell.key(a, b, c);
            case 30: return cell.delivered(a, b, c);
            case 31: return cell.air(a, b);
            case 32: return cell.count(a);
            default:
                cell.copy(a & 7);
                cell.alter(1, 8);
                cell.end(cell.count(4) - 4);
                cell.check();
                return cell.put(soon);
        }
    }

    /** All calls of a run live in one room, so only the constructor may make objects. */
    private static void noObjectsByCalls() {
        com.sun.management.ThreadMXBean threads =
                (com.sun.management.ThreadMXBean) ManagementFactory.getThreadMXBean();
        long id = Thread.currentThread().getId();
        busyRun(Cells.keyed(3));
        WirelessCell cell = Cells.keyed(3);
        long before = threads.getThreadAllocatedBytes(id);
        busyRun(cell);
        long made = threads.getThreadAllocatedBytes(id) - before;
        CHECKS.holds("bytes made by calls: " + made, made < 4096);
        before = threads.getThreadAllocatedBytes(id);
        new WirelessCell();
        made = threads.getThreadAllocatedBytes(id) - before;
        CHECKS.holds("bytes made by the constructor: " + made, made < 400_000);
    }

    private static void busyRun(WirelessCell cell) {
        for (int i = 0; i < 200; i++) {
            cell.feed(i, i, i, i, i);
            cell.size(16 + i);
            cell.submit(i % 4, (i + 1) % 4);
            cell.copy(i % 40);
            cell.put(cell.count(0) + 30);
            if (i % 20 == 0) {
                cell.join(3);
            }
            cell.go(60);
        }
        CHECKS.holds("much was said", cell.count(1) > 400);
    }
}
