import java.lang.reflect.Field;

/**
 * Promise 15 (astray). A program that keeps the other promises always answers 0, so the VIEWS are
 * changed from outside here, to see that what is astray is found.
 */
public final class AstrayTest {
    private static final Checks CHECKS = new Checks();

    public static void main(String[] args) throws ReflectiveOperationException {
        noneIsAstray();
        viewsThatCannotBe();
        oneThatIsNotDone();
        CHECKS.end();
    }

    private static int[] viewOf(SharedShelf x, int operation) throws ReflectiveOperationException {
        Field operations = SharedShelf.class.getDeclaredField("operations");
        operations.setAccessible(true);
        Object one = ((Object[]) operations.get(x))[operation];
        Field seen = one.getClass().getDeclaredField("seen");
        seen.setAccessible(true);
        return (int[]) seen.get(one);
    }

    private static void change(SharedShelf x, int operation, int... numbers) throws ReflectiveOperationException {
        System.arraycopy(numbers, 0, viewOf(x, operation), 0, numbers.length);
    }

    /** 1 an UPDATE at 0, VIEW 0 0 0; 2 one at 1, VIEW 1 0 0; 3 a QUERY, VIEW 1 1 0; one behind the other. */
    private static SharedShelf three() {
        SharedShelf x = new SharedShelf(3);
        x.update(0, 0, 1, 0);
        x.calm(2000);
        x.update(1, 0, 1, 0);
        x.calm(2000);
        x.query(2, 10, 0);
        x.calm(2000);
        return x;
    }

    private static void noneIsAstray() {
        SharedShelf x = new SharedShelf(3);
        CHECKS.due("astray() of a new object", x.astray(), 0);
        x.update(0, 0, 1, 0);
        CHECKS.due("astray() without VIEWS", x.astray(), 0);
        CHECKS.due("astray() of three", three().astray(), 0);
        CHECKS.due("count(6) of three", three().count(6), 3);
        SharedShelf y = three();
        y.query(0, 10, 0);
        CHECKS.due("astray() with one that has no VIEW yet", y.astray(), 0);
    }

    private static void viewsThatCannotBe() throws ReflectiveOperationException {
        SharedShelf x = three();
        change(x, 3, 0, 1, 0);
        // 2 and 3 neither at most the other; 2 ahead of 3 and not at most it; 1 ahead of 3 and not in it.
        CHECKS.due("3 has not 1", x.astray(), 3);
        change(x, 3, 1, 0, 0);
        CHECKS.due("3 has not 2", x.astray(), 1);
        change(x, 3, 0, 0, 0);
        // 1 is not in 3; 2 is not in 3 and not at most it, which is one pair.
        CHECKS.due("3 has none", x.astray(), 2);
        change(x, 3, 1, 1, 0);
        change(x, 2, 0, 0, 0);
        CHECKS.due("2 has not 1", x.astray(), 1);
        change(x, 2, 1, 0, 0);
        change(x, 1, 0, 1, 0);
        // 1 has 2, which began behind it; 1 and 2 neither at most the other; 1 ahead of 2 and not at most it.
        CHECKS.due("1 has 2", x.astray(), 3);
        change(x, 1, 0, 0, 0);
        CHECKS.due("all as before", x.astray(), 0);
        change(x, 1, 1, 1, 0);
        // 1 has 2; 1 is not at most 2.
        CHECKS.due("1 has itself and 2", x.astray(), 2);
        change(x, 1, 1, 0, 0);
        CHECKS.due("1 has itself", x.astray(), 0);
    }

    private static void oneThatIsNotDone() throws ReflectiveOperationException {
        SharedShelf x = new SharedShelf(3);
        x.update(0, 0, 1, 0);
        for (int phase = 0; phase < 4; phase++) {
            Steps.throughPhase(x, 0);
        }
        x.update(1, 0, 1, 0);
        Steps.throughOperation(x, 1);
        CHECKS.due("1 is not DONE", x.told(1, 4), 0);
        CHECKS.due("astray()", x.astray(), 0);
        change(x, 1, 0, 1, 0);
        CHECKS.due("1 has 2 and is not DONE", x.astray(), 0);
        change(x, 2, 1, 0, 0);
        CHECKS.due("neither at most the other", x.astray(), 1);
        change(x, 1, 0, 0, 0);
        change(x, 2, 0, 0, 0);
        CHECKS.due("2 has not 1, which is not DONE", x.astray(), 0);
    }
}
