public final class NewObjectTest {
  public static void main(String[] args) {
    Check check = new Check();
    BridgeByTwo x = new BridgeByTwo();
    check.due("count(0)", x.count(0), 0);
    check.due("count(2)", x.count(2), 0);
    check.end("NewObjectTest");
  }
}
