import com.sun.management.ThreadMXBean;
import java.lang.management.ManagementFactory;

/** What calls make of objects: nothing, for all calls of one run live in one room. And far more calls than promised. */
public final class RoomTests {
    private static final int[] NUMBERS = {Integer.MIN_VALUE, Integer.MIN_VALUE + 1, -1000000001, -41, -9, -1, 0, 1, 2,
        3, 5, 7, 8, 9, 12, 16, 20, 32, 40, 60, 99, 255, 256, 9999, 1000000007, Integer.MAX_VALUE - 1,
        Integer.MAX_VALUE};
    private static final int ROUNDS = 4000;
    private static final int MOST_BYTES = 20000;

    private int next = 0;
    private int sum = 0;

    private RoomTests() {
    }

    public static void main(String[] args) {
        RoomTests room = new RoomTests();
        BronzeDown x = new BronzeDown();
        room.round(x, 400);
        ThreadMXBean bean = (ThreadMXBean) ManagementFactory.getThreadMXBean();
        long id = Thread.currentThread().getId();
        bean.getThreadAllocatedBytes(id);
        long before = bean.getThreadAllocatedBytes(id);
        room.round(x, ROUNDS);
        long made = bean.getThreadAllocatedBytes(id) - before;
        Due.dueSo("bytes made by calls: " + made, made < MOST_BYTES);
        System.out.println("bytes made by calls: " + made + ", sum of answers: " + room.sum);
        Due.end("RoomTests");
    }

    /** A number of a kind that most calls take, or one of the wrong ones. */
    private int v() {
        next = next * 1103515245 + 12345;
        int draw = next >>> 8;
        return draw % 5 < 4 ? draw / 5 % 10 : NUMBERS[draw / 5 % NUMBERS.length];
    }

    private void round(BronzeDown x, int times) {
        long text = 0x372F663729682B77L;
        for (int i = 0; i < times; i++) {
            sum += x.season(v(), v(), v()) + x.ofSeason(v(), v()) + x.figure(v(), v()) + x.ofFigure(v());
            sum += x.step(v(), v(), v()) + x.ofStep(v(), v()) + x.trees(v(), v()) + x.visitor(v(), v(), v());
            sum += x.ofVisitor(v(), v()) + x.change(v(), v(), v()) + x.become(v(), v()) + x.as(v(), v());
            sum += x.feed(text >>> 8 * (i % 8), v()) + x.text(v()) + x.law(v(), v(), v(), v());
            sum += x.years(v()) + x.loose(v()) + x.then(v(), v()) + x.falls() + x.wet(v(), v());
            sum += x.loudFor(v(), v(), v()) + x.everyFor(v(), v()) + x.needless(v()) + x.wanted(v(), v());
            sum += x.which(v(), v()) + x.stair(v()) + x.exact() + x.house(v(), v()) + x.power(v()) + x.gait(v());
            sum += x.odds(v(), v(), v()) + x.seed(v()) + x.voice(v(), v(), v()) + x.trace(v());
            sum += x.sheet(v(), 8 << i % 3, v()) + x.sheet(v(), v(), v()) + x.put(v(), v(), v());
            sum += x.move(v(), v(), v(), v(), v()) + x.talls(v()) + x.judge(v());
            sum += (i % 50 == 9 ? x.image() + x.restore() : 0) + x.tell(v()) + (i % 9 == 0 ? x.check() : 0);
            sum += x.count(v()) + x.told(v());
        }
    }
}
