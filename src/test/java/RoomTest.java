import java.lang.management.ManagementFactory;

/** What 512 of the dearest calls make: a new object is small, and its calls make next to nothing. */
public final class RoomTest {
    private static final com.sun.management.ThreadMXBean THREADS =
            (com.sun.management.ThreadMXBean) ManagementFactory.getThreadMXBean();

    public static void main(String[] args) {
        Check check = new Check("RoomTest");
        made(new PostRounders());
        long before = bytes();
        PostRounders x = new PostRounders();
        long object = bytes() - before;
        long calls = made(x);
        System.out.println("RoomTest: an object " + object + " bytes, its calls " + calls + " bytes");
        check.that("an object stays under 16000 bytes: " + object, object < 16000);
        check.that("512 calls stay under 16000 bytes: " + calls, calls < 16000);
        check.end();
    }

    private static long bytes() {
        return THREADS.getThreadAllocatedBytes(Thread.currentThread().getId());
    }

    private static long made(PostRounders x) {
        String text = "field 5;batter 0 1;batter 1 2;batter 2 3;batter 3 4;batter 4 5;batter 5 5;ball 1 2 3;";
        long before = bytes();
        for (int k = 0; k < text.length(); k++) {
            x.type(text.charAt(k));
        }
        for (int k = 0; k < 20; k++) {
            x.read();
            x.image(k % 2);
            x.hits(9);
            x.sends(0);
            x.order(8, k % 6);
            x.against(8, 0);
            x.chance(4, 3);
            x.mean(4);
            x.send(3);
            x.note(k, 5, 5);
            x.mark(0, 1, k, 1);
            x.is();
            x.look();
            x.kinds(0);
            x.ask(0);
            x.captains(-1);
            x.days(k, 60);
            x.undo();
            x.from(k % 2);
            x.digest();
        }
        return bytes() - before;
    }
}
