import com.sun.management.ThreadMXBean;
import java.lang.management.ManagementFactory;

/** The room of a run: an object is small, and 512 of any call make nothing beside it. */
public final class RoomTest {
    private static final Check c = new Check("room");
    private static final ThreadMXBean BEAN = (ThreadMXBean) ManagementFactory.getThreadMXBean();
    /** What looking at the room may take itself. */
    private static final long SLACK = 4096;

    public static void main(String[] args) {
        run(0);
        long before = room();
        GuildPiece x = new GuildPiece();
        c.holds("a new object takes less than 20000 bytes", room() - before < 20000 + SLACK);
        c.due("it is new", x.count(1), 0);
        for (int way = 0; way < 16; way++) {
            run(way);
        }
        c.end();
    }

    private static long room() {
        return BEAN.getThreadAllocatedBytes(Thread.currentThread().getId());
    }

    private static void run(int way) {
        GuildPiece x = Check.told("g0,60,99;c1,4,7;c2,4,7;j3,4,7;h4,4,7;c5,3,7;w6,3,7;b7,9,7;"
            + "e20,0,9;e11,1,9;e16,2,9;e0,3,9;e9,1,9;");
        long sum = 0;
        long before = room();
        for (int call = 0; call < 380; call++) {
            sum += one(x, way, call);
        }
        long taken = room() - before;
        c.holds("way " + way + " makes nothing, and made " + taken + " (" + sum + ")", taken < SLACK);
    }

    private static long one(GuildPiece x, int way, int call) {
        switch (way) {
            case 0:
                return x.fewest(call % 3);
            case 1:
                return x.worth(20);
            case 2:
                return x.can();
            case 3:
                return x.row(call % 8, 2, 40);
            case 4:
                return x.drawn(30, 1 + call, 1);
            case 5:
                return x.err(call % 11, 1);
            case 6:
                return call % 2 == 0 ? x.image(call / 2 % 2) : x.restore(0);
            case 7:
                return call % 2 == 0 ? x.idle(20) : x.undo();
            case 8:
                return call % 8 == 7 ? x.undo() : x.make(call % 8);
            case 9:
                return x.ask(call % 7, call % 2);
            case 10:
                return call == 0 ? x.row(0, 2, 40) : x.skills(0, 0, 6);
            case 11:
                return call == 0 ? x.row(0, 2, 40) : x.who(0, 0, 0, 8);
            case 12:
                return call == 0 ? x.row(0, 2, 40) : call < 8 ? x.make(call - 1) : x.whereIs(0, 0, 0);
            case 13:
                return call < 7 ? x.make(call) : x.mends(1);
            case 14:
                return call < 7 ? x.make(call) : x.feasts(1);
            default:
                return call % 9 == 8 ? x.trial() : x.feed("g1,1,1;j".charAt(call % 9));
        }
    }
}
