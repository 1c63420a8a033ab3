import java.lang.reflect.Method;
import java.util.Set;
import java.util.TreeSet;

/** Every promise has boundary tests of its own. */
public final class EveryPromiseTest {
    private static final int PROMISES = 25;
    private static final Class<?>[] TESTS = {
        RiverBoundaryTest.class, LawBoundaryTest.class, DriveBoundaryTest.class, MillBoundaryTest.class,
    };

    public static void main(String[] args) {
        Set<String> promises = new TreeSet<>();
        for (Class<?> tests : TESTS) {
            for (Method test : Boundaries.testsOf(tests)) {
                boolean isNamed = test.getName().matches("promise\\d\\d_[a-z]\\w+");
                Check.due(test.getName() + " is a promise's number and a boundary", isNamed, true);
                promises.add(test.getName().substring(0, "promiseNN".length()));
            }
        }
        Set<String> due = new TreeSet<>();
        for (int n = 1; n <= PROMISES; n++) {
            due.add(String.format("promise%02d", n));
        }
        Check.due("the promises that are tried", promises.toString(), due.toString());
        Check.finish();
    }
}
