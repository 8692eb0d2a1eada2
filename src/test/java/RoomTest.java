import java.lang.management.ManagementFactory;

// Calls make nothing new: all rows are made with the object, as all calls of a run share one room.
public final class RoomTest {
  private static final int CALLS = 512;

  private static CollarNames ward() {
    CollarNames x = new CollarNames();
    for (int p = 0; p < 6; p++) x.person(p);
    for (int g = 0; g < 10; g++) x.garment(g % 6, g % 3);
    x.sheet(0, 8, 40);
    x.sheet(1, 8, 40);
    x.book(0, 2);
    return x;
  }

  private static long useAll(CollarNames x) {
    long sum = 0;
    for (int i = 0; i < CALLS; i += 16) {
      sum += x.read(0, 2) + x.plain(3, 60) + x.warmest(3, 40) + x.teach(60) + x.kind(2, 60) + x.mark(4, 40);
      sum += x.lost(0) + x.comes(0, 5) + x.then(3, 100) + x.best(100) + x.book(1, 4) + x.image() + x.undo();
      sum += x.feed(0x70656E30, 4) + x.home() + x.copy(0, 0, 1, 1, 39);
    }
    return sum;
  }

  public static void main(String[] args) {
    com.sun.management.ThreadMXBean bean = (com.sun.management.ThreadMXBean) ManagementFactory.getThreadMXBean();
    long me = Thread.currentThread().getId();
    useAll(ward());
    CollarNames x = ward();
    long before = bean.getThreadAllocatedBytes(me);
    long sum = useAll(x);
    long made = bean.getThreadAllocatedBytes(me) - before;
    System.out.println(CALLS + " calls made " + made + " bytes (sum " + sum + ")");
    if (made > 4096) System.exit(1);
  }
}
