import java.lang.management.ManagementFactory;

/** An object's whole life of 512 calls makes little more than the object itself: rows are used again. */
public final class RoomTest {
    private static final long ROOM_FOR_OBJECT = 100_000L;
    private static final long ROOM_FOR_CALLS = 10_000L;

    private static final com.sun.management.ThreadMXBean COUNTER =
        (com.sun.management.ThreadMXBean) ManagementFactory.getThreadMXBean();

    private static int four(String line, int at) {
        int result = 0;
        for (int i = 0; i < 4 && at + i < line.length(); i++) {
            result |= line.charAt(at + i) << 8 * i;
        }
        return result;
    }

    private static long made() {
        return COUNTER.getThreadAllocatedBytes(Thread.currentThread().getId());
    }

    private static int life(TwoWayTexts x, int[][] lines) {
        int calls = 0;
        int sum = 0;
        for (int round = 0; calls < 490; round++) {
            for (int four : lines[round % lines.length]) {
                x.type(four);
                calls++;
            }
            sum += x.compile() + x.why() + x.witness() + x.many(0) + x.note() + x.differs();
            calls += 6;
            for (int text = 0; text < 3; text++) {
                sum += x.get(text * 7) + x.create(text * 17) + x.key(1092 - text);
                sum += (x.keep(0) ? x.put(text * 100) : 0) + x.from(0);
                calls += 6;
            }
        }
        return sum;
    }

    public static void main(String[] args) {
        String[] texts = {".*", "(=.-.)%", "((=.%c)b)%", "(.|.)*", "aaaaaaaaaaaaaaaa", "a*b*c*a*b*c*a*b*", "(=(.*b)-.)%", ".*.*"};
        int[][] lines = new int[texts.length][];
        for (int i = 0; i < texts.length; i++) {
            lines[i] = new int[(texts[i].length() + 3) / 4];
            for (int j = 0; j < lines[i].length; j++) {
                lines[i][j] = four(texts[i], 4 * j);
            }
        }
        // The first life loads classes, which is not counted.
        life(new TwoWayTexts(), lines);
        made();
        long before = made();
        TwoWayTexts x = new TwoWayTexts();
        long between = made();
        life(x, lines);
        long after = made();
        System.out.println("bytes made: " + (between - before) + " for the object, " + (after - between) + " for its calls");
        if (between - before > ROOM_FOR_OBJECT || after - between > ROOM_FOR_CALLS) {
            System.out.println("that is more than " + ROOM_FOR_OBJECT + " and " + ROOM_FOR_CALLS);
            System.exit(1);
        }
    }
}
