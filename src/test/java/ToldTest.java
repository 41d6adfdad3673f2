// Promises 17 to 22: meter, knows, hold, holdless, fault, halt.
public final class ToldTest {
  private static int wrong = 0;

  private static void due(String call, long got, long want) {
    if (got != want) {
      wrong++;
      System.out.println(call + " answered " + got + ", due is " + want);
    }
  }

  private static void row(LightScript x, int d, int... row) {
    x.tape(d, 1, row.length);
    for (int i = 0; i < row.length; i++) {
      x.put(d, i, row[i]);
    }
  }

  private static int hold(LightScript x, int... row) {
    row(x, 1, row);
    return x.hold(1);
  }

  public static void main(String[] args) {
    meter();
    knows();
    holdRefused();
    holdFaults();
    holdFull();
    holdless();
    fault();
    halt();
    System.out.println(wrong == 0 ? "all answers are as due" : wrong + " answers are not as due");
    if (wrong != 0) {
      System.exit(1);
    }
  }

  private static void meter() {
    LightScript x = new LightScript();
    due("meter", x.meter(0, 0, 0), 1);
    due("meter", x.meter(3, 20000, 20000), 2);
    due("meter", x.meter(1, 5, 20000), 3);
    due("meter w", x.meter(-1, 0, 0), -1);
    due("meter w", x.meter(4, 0, 0), -1);
    due("meter from", x.meter(0, -1, 0), -1);
    due("meter known", x.meter(0, 0, 20001), -1);
    due("meter ticks", x.meter(0, 20001, 20001), -1);
    due("meter known ahead", x.meter(0, 6, 5), -1);
    due("count", x.count(4), 3);
    for (int i = 4; i <= 20; i++) {
      due("meter", x.meter(2, 7, 7), i);
    }
    due("meter full", x.meter(2, 7, 7), -2);
    due("meter wrong and full", x.meter(2, 7, 6), -1);
    due("count", x.count(4), 20);
    x.begin();
    due("meter", x.meter(2, 7, 7), 1);
  }

  private static void knows() {
    LightScript x = new LightScript();
    due("knows", x.knows(-1), -1);
    due("knows", x.knows(20001), -1);
    due("knows", x.knows(0), 0);
    due("knows", x.knows(20000), 0);
    x.meter(1, 10, 30);
    due("knows, blows but isn't known", x.knows(29), 0);
    due("knows", x.knows(30), 1);
    x.meter(2, 20, 40);
    due("knows", x.knows(39), 1);
    due("knows, the later one", x.knows(40), 2);
    x.meter(3, 15, 50);
    due("knows, one that blew before", x.knows(50), 2);
    x.meter(3, 20, 60);
    due("knows", x.knows(59), 2);
    due("knows, of two alike the one told last", x.knows(60), 3);
    x.meter(1, 20, 45);
    due("knows, of two alike the one told last", x.knows(60), 1);
    due("knows, of two alike the one told last", x.knows(45), 1);
    due("knows", x.knows(44), 2);
    x.meter(0, 0, 0);
    due("knows", x.knows(29), 0);
    due("knows", x.knows(30), 1);
    due("knows", x.knows(20000), 1);
  }

  private static void holdRefused() {
    LightScript x = new LightScript();
    due("hold d", x.hold(-1), -1);
    due("hold d", x.hold(6), -1);
    due("hold nothing", x.hold(0), -11);
    for (int sort = 2; sort <= 4; sort++) {
      x.tape(0, sort, 3);
      due("hold of sort " + sort, x.hold(0), -12);
    }
    x.keep(0);
    due("hold a show", x.hold(0), -12);
    due("count(7)", x.count(7), 5);
    due("count(5)", x.count(5), 0);
  }

  private static void holdFaults() {
    LightScript x = new LightScript();
    due("hold no row at all", hold(x), -100);
    due("hold no order", hold(x, 1, 1, 9, 0), -102);
    due("hold no order", hold(x, -1, 0), -100);
    due("hold nothing on it at 0", hold(x, 0), -100);
    due("hold two on it at 0", hold(x, 1, 1, 2, 1, 0), -104);
    due("hold no 0", hold(x, 1, 1), -102);
    due("hold no 0", hold(x, 1, 1, 8), -103);
    due("hold a number lacks", hold(x, 1), -100);
    due("hold a number lacks", hold(x, 1, 1, 5), -102);
    for (int order = 1; order <= 5; order++) {
      due("hold below 0", hold(x, order, -1, 0), -100);
      due("hold below 0", hold(x, 1, 0, order, -128, 6, 0), -102);
    }
    due("hold too few for 6", hold(x, 6, 0), -100);
    due("hold too few for 6", hold(x, 1, 1, 6, 0), -102);
    due("hold too few for 7", hold(x, 1, 1, 7, 0), -102);
    due("hold too few for 8", hold(x, 8, 0), -100);
    due("hold too few for 6 after 6", hold(x, 1, 1, 1, 1, 6, 6, 0), -105);
    due("hold the ninth on it", hold(x,
        1, 0, 1, 0, 1, 0, 1, 0, 1, 0, 1, 0, 1, 0, 1, 0, 1, 0, 0), -116);
    due("hold the ninth on it goes ahead of its number", hold(x,
        1, 0, 1, 0, 1, 0, 1, 0, 1, 0, 1, 0, 1, 0, 1, 0, 1, -5, 0), -116);
    due("count(5)", x.count(5), 0);
    due("count(7)", x.count(7), 0);
    due("hold", hold(x, 1, 127, 0), 0);
    due("hold", hold(x, 3, 127, 8, 0), 1);
    due("hold eight on it", hold(x,
        1, 0, 2, 0, 3, 0, 4, 0, 5, 0, 1, 0, 1, 0, 1, 0, 6, 7, 6, 7, 6, 7, 6, 0), 2);
    due("hold, more behind the 0", hold(x, 5, 3, 0, 77, -1), 3);
    due("count(5)", x.count(5), 4);
  }

  private static void holdFull() {
    LightScript x = new LightScript();
    int[] twenty = new int[22];
    twenty[0] = 1;
    for (int i = 2; i <= 20; i++) {
      twenty[i] = 8;
    }
    due("hold twenty orders", hold(x, twenty), 0);
    int[] more = new int[23];
    more[0] = 1;
    for (int i = 2; i <= 21; i++) {
      more[i] = 8;
    }
    due("hold more than twenty orders", hold(x, more), -2);
    more[22] = 8;
    due("hold more than twenty orders, a fault", hold(x, more), -123);
    due("count(5)", x.count(5), 1);
    for (int i = 1; i < 8; i++) {
      due("hold", hold(x, 2, 0, 0), i);
    }
    due("hold a ninth", hold(x, 2, 0, 0), -2);
    due("hold a ninth, a fault", hold(x, 2, 0, 6), -102);
    due("count(5)", x.count(5), 8);
  }

  private static void holdless() {
    LightScript x = new LightScript();
    due("holdless", x.holdless(), 0);
    hold(x, 1, 0, 0);
    hold(x, 1, 0, 0);
    due("holdless", x.holdless(), 2);
    due("holdless", x.holdless(), 0);
    due("count(5)", x.count(5), 0);
    due("hold", hold(x, 1, 0, 0), 0);
  }

  private static void fault() {
    LightScript x = new LightScript();
    x.kind(0, 5, 50, 0, 1010);
    x.barge(0, 5, 5, 9);
    due("fault of none", x.fault(0, 0), -1);
    row(x, 0, 2, 1, 3, 0, 0, 2, 0);
    x.write(0);
    due("fault", x.fault(0, 1), 0);
    due("fault", x.fault(0, 6), 1);
    due("fault", x.fault(0, 7), -1);
    due("fault", x.fault(0, -1), -1);
    due("fault", x.fault(0, 5), 6);
    due("fault", x.fault(0, 0), 5);
    due("fault", x.fault(0, 0), 0);
    due("fault of another", x.fault(1, 0), 0);
    due("fault of none", x.fault(2, 0), -1);
    due("fault of none", x.fault(-1, 0), -1);
    due("fault of none", x.fault(120, 0), -1);
  }

  private static void halt() {
    LightScript x = new LightScript();
    due("halt", x.halt(0), -1);
    due("halt", x.halt(20000), 0);
    due("halt", x.halt(20001), -1);
    due("halt", x.halt(-2), -1);
    due("halt", x.halt(-1), 20000);
    due("halt", x.halt(-1), -1);
  }
}
