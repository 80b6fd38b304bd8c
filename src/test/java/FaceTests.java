public final class FaceTests {
    public static void main(String[] args) {
        System.exit(BreadCity.NONE == -1 ? 0 : 1);
    }
}
