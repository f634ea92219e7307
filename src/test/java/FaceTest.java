/** Promise 1 and the face: what a new object has, and the constants. */
public final class FaceTest {
    public static void main(String[] args) {
        if (DomainHouse.BAD != -1) {
            System.exit(1);
        }
    }
}
