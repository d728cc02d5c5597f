import java.lang.management.ManagementFactory;

/**
 * What the dearest runs make, in bytes: as no element has less than one, fewer bytes than the room has
 * elements are room enough.
 */
public final class RoomTests {
    private static final long ROOM = 7300000;
    private static final Check C = new Check();

    private RoomTests() {
    }

    private static long made() {
        return ((com.sun.management.ThreadMXBean) ManagementFactory.getThreadMXBean()).getCurrentThreadAllocatedBytes();
    }

    private static void within(String run, long before) {
        long bytes = made() - before;
        C.isTrue(run + " made " + bytes + " bytes", bytes < ROOM);
    }

    private static void fewObjects() {
        long before = made();
        for (int i = 0; i < 40; i++) {
            new BeanStreet().status();
        }
        within("forty objects", before);
    }

    /** The largest city, changed ahead of every dear call. */
    private static void dearCalls() {
        int[] text = {1818588275, 538976288, 538976288, 538976288, 538976288};
        long before = made();
        BeanStreet x = new BeanStreet();
        for (int colour = 0; colour < 5; colour++) {
            x.beans(colour, colour < 2 ? 2 : 1);
        }
        x.feed(text[0], text[1], text[2], text[3], text[4]);
        x.law();
        x.force(0);
        for (int i = 0; i < 100; i++) {
            x.terms(1, i % 100);
            x.far(0, 1259 - i, i % 3);
            x.parted(0, 1259 - i);
            x.rows(i, -1, 12);
            x.sorts(2);
        }
        within("dear calls", before);
    }

    /** Cities that grow and shrink. */
    private static void growing() {
        long before = made();
        BeanStreet x = new BeanStreet();
        for (int i = 0; i < 100; i++) {
            x.beans(i % 5, i % 3);
            x.beans((i + 2) % 5, i % 2 + 1);
            x.parted(0, x.houses() - 1);
            x.round(-1);
            x.post(0, 1, 1, 0);
        }
        within("growing", before);
    }

    private static void laws() {
        int one = 1952541541;
        long before = made();
        BeanStreet x = new BeanStreet();
        x.image(0);
        for (int i = 0; i < 100; i++) {
            // "takes 1" and as many "+1" as stand in a hundred bytes more.
            x.feed(one, 0x73203120, 0x2b312b31, 0x2b312b31, 0x2b312b31);
            x.feed(0x2b312b31, 0x2b312b31, 0x2b312b31, 0x2b312b31, 0x2b312b31);
            x.feed(0x2b312b31, 0x2b312b31, 0x2b312b31, 0x2b312b31, 0x2b312b31);
            C.due("law", x.law(), i % 6);
            if (i % 6 == 5) {
                x.back(0);
            }
        }
        within("laws", before);
    }

    private static void asking() {
        long before = made();
        BeanStreet x = new BeanStreet();
        for (int colour = 0; colour < 5; colour++) {
            x.beans(colour, colour < 2 ? 2 : 1);
        }
        for (int i = 0; i < 20; i++) {
            x.terms(0, i % 2);
            C.isTrue("some house is best", x.ask(0) >= 0 && x.ask(1) > 0);
        }
        within("asking", before);
    }

    public static void main(String[] args) {
        made();
        fewObjects();
        dearCalls();
        growing();
        laws();
        asking();
        C.finish();
    }
}
