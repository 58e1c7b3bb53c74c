import com.sun.management.ThreadMXBean;
import java.lang.management.ManagementFactory;

/** All calls of one run live in one room: what an object and its 512 calls make is kept small. */
public final class RoomTest {
    private static final long ROOM_OF_AN_OBJECT = 60_000;
    private static final long ROOM_OF_CALLS = 60_000;
    private static final ThreadMXBean BEAN = (ThreadMXBean) ManagementFactory.getThreadMXBean();
    private static int wrong = 0;
    private static long sink = 0;

    public static void main(String[] args) {
        AlikeStore first = full();
        for (int i = 0; i < 50; i++) {
            dear(first, i);
        }
        long before = made();
        AlikeStore x = new AlikeStore();
        most("an object", made() - before, ROOM_OF_AN_OBJECT);
        sink += x.status();
        AlikeStore y = full();
        before = made();
        for (int i = 0; i < 350; i++) {
            dear(y, i);
        }
        most("all calls", made() - before, ROOM_OF_CALLS);
        AlikeStore z = full();
        before = made();
        for (int i = 0; i < 45; i++) {
            z.feed(0x20202020, 0x20202020, 0x20202020, 0x20202020, 0x20202020);
        }
        for (int i = 0; i < 400; i++) {
            sink += z.load(0);
        }
        most("400 loads", made() - before, ROOM_OF_CALLS);
        System.out.println("RoomTest: " + (wrong == 0 ? "small enough" : "too dear") + (sink == 1 ? "." : ""));
        if (wrong != 0) {
            System.exit(1);
        }
    }

    private static long made() {
        return BEAN.getThreadAllocatedBytes(Thread.currentThread().getId());
    }

    private static void most(String what, long bytes, long bound) {
        if (bytes > bound) {
            wrong++;
            System.out.println(what + " made " + bytes + " bytes, at most " + bound + " are due");
        }
    }

    private static AlikeStore full() {
        AlikeStore x = Check.loaded("bits 48;parts 8 8 8 8 8 8;filter ones > 0 or not [tag = 3 and key 2 < 9];");
        for (int i = 0; i < 32; i++) {
            x.add(i * 0x123456789abL & (1L << 48) - 1);
        }
        return x;
    }

    private static void dear(AlikeStore x, int i) {
        switch (i % 14) {
            case 0:
                sink += x.joined(24);
                break;
            case 1:
                sink += x.bestPart(24);
                break;
            case 2:
                sink += x.grown(i, 32, 1);
                break;
            case 3:
                sink += x.apart(i, 48, 32, 31);
                break;
            case 4:
                sink += x.clusters(20, 2);
                break;
            case 5:
                sink += x.cluster(3, 20, 2);
                break;
            case 6:
                sink += x.pair(48, 400, 2);
                break;
            case 7:
                sink += x.near(i, 24, 3);
                break;
            case 8:
                sink += x.swap(i % 40, i % 40 + 1);
                break;
            case 9:
                sink += x.undo();
                break;
            case 10:
                sink += x.ranked(i, 31);
                break;
            case 11:
                sink += x.spread(2, 1) + x.mark();
                break;
            case 12:
                sink += x.closest(2) + x.back();
                break;
            default:
                sink += x.vote(-1) + x.telling() + x.budget(i, 24, 3);
                break;
        }
    }
}
