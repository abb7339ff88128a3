import java.lang.management.ManagementFactory;

/** Calls make no objects, but for a text that is read well: all calls of a run live in one room. */
public final class RoomTest {
    private static long sum = 0;

    public static void main(String[] args) {
        com.sun.management.ThreadMXBean threads = (com.sun.management.ThreadMXBean) ManagementFactory.getThreadMXBean();
        long id = Thread.currentThread().getId();
        StalemateDinner d = full();
        allCalls(d);
        long before = threads.getThreadAllocatedBytes(id);
        before = threads.getThreadAllocatedBytes(id);
        for (int i = 0; i < 10; i++) {
            allCalls(d);
        }
        long bytes = threads.getThreadAllocatedBytes(id) - before;
        Check.due("bytes of ten rounds of calls, " + bytes + ", are few", bytes < 4096 ? 1 : 0, 1);
        StalemateDinner empty = new StalemateDinner();
        empty.feed(5, 'd', 'a', 'r', 'e', 's');
        sum += empty.text();
        before = threads.getThreadAllocatedBytes(id);
        for (int i = 0; i < 1000; i++) {
            empty.feed(5, 'd', 'a', 'r', 'e', 's');
            sum += empty.text();
        }
        bytes = threads.getThreadAllocatedBytes(id) - before;
        Check.due("bytes of texts with a fault, " + bytes + ", are few", bytes < 4096 ? 1 : 0, 1);
        full();
        before = threads.getThreadAllocatedBytes(id);
        for (int i = 0; i < 10; i++) {
            full();
        }
        bytes = (threads.getThreadAllocatedBytes(id) - before) / 10;
        Check.due("bytes of one object with six texts, " + bytes + ", are few", bytes < 20000 ? 1 : 0, 1);
        Check.due("the calls were done", sum == 0 ? 0 : 1, 1);
        Check.end();
    }

    private static StalemateDinner full() {
        StalemateDinner d = new StalemateDinner();
        for (int t = 1; t < 6; t++) {
            Check.text(d, "dares not(shy<3)*20+bored;eats (ate+1)*(wrongs=2)or minute<3;tells more-" + t + ";");
        }
        for (int p = 0; p < 6; p++) {
            d.guest(11 * p, 100 * p, 7 * p);
        }
        return d;
    }

    private static void allCalls(StalemateDinner d) {
        d.force(3);
        d.film(0, 20);
        d.sheet(1, 0, 20);
        sum += d.copy(0, 0, 1, 0, 20) + d.cell(1, 3, 1) + d.guestsBy(0, 0, 0, 6) + d.taken(3, 1);
        for (int p = 0; p < 6; p++) {
            for (int what = 0; what < 10; what++) {
                sum += d.told(p, what) + d.run(40, 10 + p) + d.manners(p, what, 0) + d.dinner(what);
            }
            sum += d.states(0, p, 1, 0) + d.states(0, p, 2, 1) + d.turned(0, p) + d.kinds(0, p, 0) + d.kinds(0, p, 1);
            sum += d.when(p) + d.forgive(p, 0) + d.bold(p) + d.asks(2, p) + d.put(p, 1, 5) + d.act(p);
        }
        sum += d.poker(40, 0) + d.alarm(40, 0) + d.change(40, 0) + d.mean(0) + d.judge(0) + d.feared(0) + d.laws(0);
        sum += d.drawn(7, 0) + d.odds(7, 40, 30, 0) + d.image() + d.minute() + d.back() + d.swap(0, 1) + d.count(2);
        sum += d.feed(5, 'd', 'a', 'r', 'e', 's') + d.text() + d.clock(5) + d.guest(0, 0, 0);
    }
}
