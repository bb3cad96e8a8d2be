import com.sun.management.ThreadMXBean;
import java.lang.management.ManagementFactory;

/** All calls of a run live in one room (LANGUAGE.md, rule 12): none of them may make much that is new. */
public final class RoomTest {
    // 16 houses, 16 persons, a walk and a letter are made ahead.
    private static final int MADE = 34;
    private static final int CALLS = 512 - MADE;
    // The room holds 7.3 million fields and elements; a tenth of it, at 4 bytes each, is far more than a run needs.
    private static final long MOST_BYTES = 2_900_000;

    private static final Check CHECK = new Check();

    private RoomTest() {
    }

    private interface Call {
        void on(LetterRouter x, int turn);
    }

    /** What a new office and 512 calls make, most of them of one kind. */
    private static long bytesOf(Call call) {
        ThreadMXBean threads = (ThreadMXBean) ManagementFactory.getThreadMXBean();
        long self = Thread.currentThread().getId();
        long before = threads.getThreadAllocatedBytes(self);
        LetterRouter x = Scenes.row(16);
        x.addLetter(15, 9, true);
        for (int turn = 0; turn < CALLS; turn++) {
            call.on(x, turn);
        }
        return threads.getThreadAllocatedBytes(self) - before;
    }

    private static void look(String name, Call call) {
        bytesOf(call);
        long bytes = bytesOf(call);
        CHECK.equal(name + " makes " + bytes + " bytes, few enough", bytes <= MOST_BYTES, true);
    }

    public static void main(String[] args) {
        CHECK.at("a run of 512 calls");
        look("note", (x, turn) -> x.note(0, turn % 7));
        look("noteLength", (x, turn) -> x.noteLength(0));
        look("leave", (x, turn) -> x.leave(15, turn % 300, 300));
        look("pass and undo", (x, turn) -> {
            if (turn % 2 == 0) {
                x.pass(60);
            } else {
                x.undo();
            }
        });
        look("save and restore", (x, turn) -> {
            if (turn % 2 == 0) {
                x.save();
            } else {
                x.restore();
            }
        });
        look("redirectHouse and dropRedirect", (x, turn) -> {
            if (turn % 2 == 0) {
                x.redirectHouse(0, 15, 0, 365);
            } else {
                x.dropRedirect(0);
            }
        });
        look("append and arrive", (x, turn) -> {
            if (turn % 4 < 2) {
                x.append(turn % 4 == 0 ? 'p' : '0');
            } else if (turn % 4 == 2) {
                x.arrive();
            } else {
                x.undo();
            }
        });
        look("daysLeft", (x, turn) -> x.daysLeft(0));
        CHECK.finish("RoomTest");
    }
}
