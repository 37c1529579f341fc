public final class FirstTest {
    public static void main(String[] args) {
        StripeTrade x = new StripeTrade();
        Due.is("trade", 1, Due.trade(x, "beast 5 3;"));
        Due.end();
    }
}
