public final class FirstTest {
    public static void main(String[] args) {
        Due due = new Due();
        DarkRing x = new DarkRing();
        due.is("house", x, Due.house(x, "key a;"), 1, 0);
        due.end("FirstTest");
    }
}
