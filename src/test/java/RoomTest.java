import com.sun.management.ThreadMXBean;
import java.lang.management.ManagementFactory;

/** The room: all calls of a run live in one, so that no call makes objects or arrays, and a new object few. */
public final class RoomTest {
    // an object is used for at most 512 calls, a round is of some 45
    private static final int ROUNDS = 10;
    private static final int OBJECTS = 50;

    private RoomTest() {
    }

    public static void main(String[] args) {
        ThreadMXBean threads = (ThreadMXBean) ManagementFactory.getThreadMXBean();
        long self = Thread.currentThread().getId();
        EchoPaysRent[] many = new EchoPaysRent[OBJECTS];
        // once before, so that what the machine itself makes at first is not counted
        long sum = everyCall(new EchoPaysRent(), 0);

        long before = threads.getThreadAllocatedBytes(self);
        for (int i = 0; i < OBJECTS; i++) {
            many[i] = new EchoPaysRent();
        }
        long made = (threads.getThreadAllocatedBytes(self) - before) / OBJECTS;
        Due.due("bytes of a new object: " + made, made < 10000 ? 1 : 0, 1);

        before = threads.getThreadAllocatedBytes(self);
        for (int round = 0; round < ROUNDS * OBJECTS; round++) {
            sum += everyCall(many[round % OBJECTS], round);
        }
        made = threads.getThreadAllocatedBytes(self) - before;
        // what asking makes is some hundred bytes; one array a round would be 8,000 at least
        Due.due("bytes made by " + ROUNDS * OBJECTS + " rounds of all calls: " + made, made < 4000 ? 1 : 0, 1);
        Due.due("all rounds answered", sum != 0 ? 1 : 0, 1);
        Due.finish("RoomTest");
    }

    private static long everyCall(EchoPaysRent x, int round) {
        int yard = round % 41;
        long sum = x.write(8, round) + x.fault() + x.lay() + x.wipe();
        sum += x.write(8, 0x66322C332C323B77L) + x.write(8, 0x302C312C35303B77L);
        sum += x.write(7, 0x312C322C36303BL) + x.fault() + x.lay() + x.wipe();
        sum += x.face(0, 0) + x.word(0, 3) + x.heard(yard, 9) + x.clear(yard) + x.rent();
        sum += x.place(0) + x.place(1) + x.place(2) + x.place(3);
        sum += x.go(0, yard) + x.go(1, 40 - yard) + x.snow(round % 2) + x.say(3, 3, 33) + x.leftOut();
        sum += x.talk(1) + x.talk(round % 4) + x.lines(0) + x.second(yard) + x.thick();
        sum += x.heckle(yard, 3, 0) + x.heckle(yard, 3, 1) + x.ear(yard, 7, round % 9);
        sum += x.stood(0) + x.stood(1) + x.moved() + x.evening(round) + x.keep() + x.undo() + x.back();
        return sum + x.noEars() + x.noTalk() + x.count(round % 10) + 1000;
    }
}
