/** Promises 35 to 37: all orders of those in the line. */
public final class OrdersTest {
  public static void main(String[] args) {
    order();
    rests();
    places();
    Probe.finish(35, 37);
  }

  private static void order() {
    Probe p = Probe.eager(3);
    p.due(35, "order()", p.x.order(), -4, 1210);
    p.due(35, "nothing changes", p.x.line(), 1012);
    // All longs but the last are longer: who takes longest goes last.
    Probe t = new Probe().rules("0-t").people("1,9,0;1,1,0;1,5,0;1,2,0");
    t.due(35, "the shortest first", t.x.order(), -12, 11320);
    Probe none = new Probe().people("1,9,0;1,1,0;1,5,0");
    none.x.run(0, 9);
    none.due(35, "the least code of equal ones", none.x.order(), 0, 1012);
    none.x.serve(1);
    none.x.comes(0);
    none.due(35, "the least code, whatever the line is", none.x.order(), 0, 1012);
    Probe nobody = new Probe();
    nobody.due(35, "nobody", nobody.x.order(), 0, 1);
    Probe seven = Probe.eager(7);
    seven.due(35, "seven", seven.x.order(), -56, 16543210);
    Probe eight = Probe.eager(8);
    eight.x.sum();
    eight.due(35, "eight", eight.x.order(), -3, 0, -2, -6, -12, -20, -30, -42, -56);
    eight.x.serve(1);
    eight.due(35, "seven of eight", eight.x.order(), -77, 17654321);
    // Sales so far count as they are: by k those who had none want more.
    Probe k = new Probe().rules("-p*(9-k*4-i)").people("99,1,0;99,1,0");
    k.due(35, "by k", k.x.order(), -8, 101);
  }

  private static void rests() {
    Probe p = Probe.eager(3);
    p.due(36, "rests()", p.x.rests(), 1, 1210, -4);
    p.due(36, "FIRST", p.law(0, 0, 99, 1).x.rests(), 3, 1021, -4);
    p.due(36, "FEE", p.law(0, 9, 99, 0).x.rests(), 6, 1012, -4);
    p.due(36, "MOST", p.law(0, 0, 0, 0).x.rests(), 6, 1012, -4);
    p.law(0, 0, 99, 0).x.sheet(3, 0, 0, 0);
    p.due(36, "empty purses", p.x.rests(), 6, 1012, -4);
    p.x.friend(0, 1, true);
    // Then 1 can't stand right behind 0.
    p.due(36, "friends", p.x.rests(), 4, 1021, -4);
    Probe nobody = new Probe();
    nobody.due(36, "nobody", nobody.x.rests(), 1, 1, 0);
    Probe eight = Probe.eager(8);
    eight.due(36, "eight", eight.x.rests(), -3);
    eight.x.serve(1);
    eight.due(36, "seven of eight", eight.x.rests(), 1, 17654321, -77);
    // 1 never sells: 2 may stay behind it.
    Probe s = new Probe().rules("-p*(i+1)").people("5,1,0;5,1,0!;5,1,0");
    s.due(36, "stubborn", s.x.rests(), 2, 1120, -4);
  }

  private static void places() {
    Probe p = Probe.eager(3);
    p.due(37, "places(1)", p.x.places(1), 2, 1, 1);
    p.law(0, 0, 99, 1);
    p.due(37, "places(0)", p.x.places(0), 5, 2, 2);
    p.due(37, "places(1), of equal ones the first", p.x.places(1), 7, 0, 1);
    p.due(37, "places(3)", p.x.places(3), -1);
    p.due(37, "places(-1)", p.x.places(-1), -1, 0, 1);
    p.x.serve(1);
    p.due(37, "places(0) of one who was served", p.x.places(0), -1);
    p.due(37, "places(2)", p.x.places(2), 3, 0, 1);
    Probe none = new Probe().people("1,9,0;1,1,0;1,5,0");
    none.due(37, "all orders", none.x.places(2), 7, 0, 2);
    Probe eight = Probe.eager(8);
    eight.due(37, "eight", eight.x.places(0), -3);
    eight.due(37, "eight, not in the line", eight.x.places(8), -1);
    Probe seven = Probe.eager(7);
    seven.due(37, "seven", seven.x.places(0), 64, 6, 1);
  }
}
