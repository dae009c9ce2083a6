import com.sun.management.ThreadMXBean;
import java.lang.management.ManagementFactory;

/** A house makes what it needs when it and its books are made; no later call makes anything. */
public final class RoomTest {
  private static final int ROUNDS = 20;
  private static final long MOST_BYTES_OF_A_HOUSE = 200_000;
  private static final long MOST_BYTES_OF_CALLS = 2_000;

  public static void main(String[] args) {
    ThreadMXBean threads = (ThreadMXBean) ManagementFactory.getThreadMXBean();
    long thread = Thread.currentThread().getId();
    long leastHouse = Long.MAX_VALUE;
    long leastCalls = Long.MAX_VALUE;
    int sum = 0;
    // The least of several rounds, as the machine itself may make something for a call's first time.
    for (int round = 0; round < ROUNDS; round++) {
      long before = threads.getThreadAllocatedBytes(thread);
      ScanningHouse house = fullHouse();
      long between = threads.getThreadAllocatedBytes(thread);
      sum += callAll(house);
      long after = threads.getThreadAllocatedBytes(thread);
      leastHouse = Math.min(leastHouse, between - before);
      leastCalls = Math.min(leastCalls, after - between);
    }
    boolean fits = leastHouse <= MOST_BYTES_OF_A_HOUSE && leastCalls <= MOST_BYTES_OF_CALLS && sum != 0;
    System.out.println("RoomTest: a full house takes " + leastHouse + " bytes, its calls " + leastCalls);
    System.exit(fits ? 0 : 1);
  }

  private static ScanningHouse fullHouse() {
    ScanningHouse house = new ScanningHouse();
    house.book(7, 180, 60, 9, ScanningHouse.NONE);
    for (int book = 1; book < 6; book++) {
      house.book(12, 180, 60, 9, ScanningHouse.NONE);
    }
    return house;
  }

  private static int callAll(ScanningHouse house) {
    int sum = 0;
    for (int book = 0; book < 6; book++) {
      for (int page = 0; page < 7; page++) {
        sum += house.shot(book, page, 30, page);
        sum += house.look(book, page) ? 1 : 0;
        house.words(book, page, page % 2, 1 - page % 2);
        for (int keyer = 0; keyer < 5; keyer++) {
          sum += house.key(keyer, book, page, 0, keyer);
        }
        sum += house.read(book, page, 0) + house.doubt(book, page, 0) + house.gold(book, page, 0, 1);
      }
      sum += house.order(0, 0) + house.orderAnew(0, 6);
      sum += house.rot(0, book, 0, 1) ? 1 : 0;
      sum += house.check(0, book) + house.looked() + house.mend(0, book) + house.next() + house.about(book, 3);
    }
    sum += house.burn(0) + house.trust(0) + house.pay(0) + house.whyNot(0, 0, 0) + house.calibrate();
    return sum;
  }
}
