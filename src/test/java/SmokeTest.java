public final class SmokeTest {
    public static void main(String[] args) {
        if (new TakerBook().digest() == 0) {
            System.exit(1);
        }
    }
}
