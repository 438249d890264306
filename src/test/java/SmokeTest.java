public final class SmokeTest {
    public static void main(String[] args) {
        ProphecyShop shop = new ProphecyShop();
        Checks.due("1: day", shop.day(), 0);
        Checks.end("SmokeTest");
    }
}
