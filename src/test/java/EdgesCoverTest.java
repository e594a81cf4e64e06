import java.lang.reflect.Method;

/** Each promise has an edge of its own among the edges' classes. */
public final class EdgesCoverTest {
    public static void main(String[] args) {
        Class<?>[] all = {EdgesShelvesTest.class, EdgesPeopleTest.class, EdgesLawsTest.class, EdgesTurnTest.class,
            EdgesTickTest.class, EdgesEveningTest.class, EdgesMicroTest.class, EdgesActsTest.class, EdgesImageTest.class};
        int[] found = new int[100];
        for (Class<?> tests : all) {
            for (Method method : tests.getDeclaredMethods()) {
                String name = method.getName();
                if (name.matches("p\\d\\d.*")) found[Integer.parseInt(name.substring(1, 3))]++;
            }
        }
        Check check = new Check();
        for (int promise = 1; promise <= 45; promise++) check.due("edges of promise " + promise, found[promise] > 0 ? 1 : 0, 1);
        check.end();
    }
}
