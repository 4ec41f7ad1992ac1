import java.lang.reflect.Field;

/**
 * Promise 15 (astray). A program that keeps the other promises always answers 0, so the VIEWS are
 * changed from outside here, to see that what is astray is found.
 */
public final class AstrayTest {
    private static final Checks CHECKS = new Checks();

    public static void main(String[] args) throws ReflectiveOperationException {
        noneIsAstray();
        viewsThatCannotBe();
        oneThatIsNotDone();
        neitherIsAtMost();
        aheadButNotAtMost();
        aheadAndMissed();
        notAhead();
        beganBehind();
        withoutView();
        CHECKS.end();
    }

    private static int[] viewOf(SharedShelf x, int operation) throws ReflectiveOperationException {
        Field operations = SharedShelf.class.getDeclaredField("operations");
        operations.setAccessible(true);
        Object one = ((Object[]) operations.get(x))[operation];
        Field seen = one.getClass().getDeclaredField("seen");
        seen.setAccessible(true);
        return (int[]) seen.get(one);
    }

    private static void change(SharedShelf x, int operation, int... numbers) throws ReflectiveOperationException {
        System.arraycopy(numbers, 0, viewOf(x, operation), 0, numbers.length);
    }

    /** 1 an UPDATE at 0, VIEW 0 0 0; 2 one at 1, VIEW 1 0 0; 3 a QUERY, VIEW 1 1 0; one behind the other. */
    private static SharedShelf three() {
        SharedShelf x = new SharedShelf(3);
        x.update(0, 0, 1, 0);
        x.calm(2000);
        x.update(1, 0, 1, 0);
        x.calm(2000);
        x.query(2, 10, 0);
        x.calm(2000);
        return x;
    }

    private static void noneIsAstray() {
        SharedShelf x = new SharedShelf(3);
        CHECKS.due("astray() of a new object", x.astray(), 0);
        x.update(0, 0, 1, 0);
        CHECKS.due("astray() without VIEWS", x.astray(), 0);
        CHECKS.due("astray() of three", three().astray(), 0);
        CHECKS.due("count(6) of three", three().count(6), 3);
        SharedShelf y = three();
        y.query(0, 10, 0);
        CHECKS.due("astray() with one that has no VIEW yet", y.astray(), 0);
    }

    private static void viewsThatCannotBe() throws ReflectiveOperationException {
        SharedShelf x = three();
        change(x, 3, 0, 1, 0);
        // 2 and 3 neither at most the other; 2 ahead of 3 and not at most it; 1 ahead of 3 and not in it.
        CHECKS.due("3 has not 1", x.astray(), 3);
        change(x, 3, 1, 0, 0);
        CHECKS.due("3 has not 2", x.astray(), 1);
        change(x, 3, 0, 0, 0);
        // 1 is not in 3; 2 is not in 3 and not at most it, which is one pair.
        CHECKS.due("3 has none", x.astray(), 2);
        change(x, 3, 1, 1, 0);
        change(x, 2, 0, 0, 0);
        CHECKS.due("2 has not 1", x.astray(), 1);
        change(x, 2, 1, 0, 0);
        change(x, 1, 0, 1, 0);
        // 1 has 2, which began behind it; 1 and 2 neither at most the other; 1 ahead of 2 and not at most it.
        CHECKS.due("1 has 2", x.astray(), 3);
        change(x, 1, 0, 0, 0);
        CHECKS.due("all as before", x.astray(), 0);
        change(x, 1, 1, 1, 0);
        // 1 has 2; 1 is not at most 2.
        CHECKS.due("1 has itself and 2", x.astray(), 2);
        change(x, 1, 1, 0, 0);
        CHECKS.due("1 has itself", x.astray(), 0);
    }

    private static void oneThatIsNotDone() throws ReflectiveOperationException {
        SharedShelf x = new SharedShelf(3);
        x.update(0, 0, 1, 0);
        for (int phase = 0; phase < 4; phase++) {
            Steps.throughPhase(x, 0);
        }
        x.update(1, 0, 1, 0);
        Steps.throughOperation(x, 1);
        CHECKS.due("1 is not DONE", x.told(1, 4), 0);
        CHECKS.due("astray()", x.astray(), 0);
        change(x, 1, 0, 1, 0);
        CHECKS.due("1 has 2 and is not DONE", x.astray(), 0);
        change(x, 2, 1, 0, 0);
        CHECKS.due("neither at most the other", x.astray(), 1);
        change(x, 1, 0, 0, 0);
        change(x, 2, 0, 0, 0);
        CHECKS.due("2 has not 1, which is not DONE", x.astray(), 0);
    }

    /** A QUERY at each of these NODES, begun one behind the other, which go on together and are DONE. */
    private static SharedShelf queriesAtOnce() {
        SharedShelf x = new SharedShelf(4);
        for (int k = 0; k < 4; k++) {
            x.query(k, 10, 0);
        }
        x.calm(2000);
        CHECKS.due("DONE", x.count(6), 4);
        return x;
    }

    private static void neitherIsAtMost() throws ReflectiveOperationException {
        CHECKS.sentence("15: pairs of OPERATIONS of which neither's VIEW is, number by number, at most the other's");
        SharedShelf x = queriesAtOnce();
        CHECKS.due("all alike", x.astray(), 0);
        change(x, 1, 1, 0, 0, 0);
        change(x, 2, 2, 0, 0, 0);
        change(x, 3, 2, 0, 0, 1);
        change(x, 4, 2, 5, 0, 1);
        CHECKS.due("each at most the next", x.astray(), 0);
        change(x, 1, 2, 5, 0, 1);
        change(x, 4, 1, 0, 0, 0);
        CHECKS.due("the other way round", x.astray(), 0);
        change(x, 4, 0, 0, 0, 2);
        CHECKS.due("one against three", x.astray(), 3);
        change(x, 1, 0, 0, 9, 0);
        CHECKS.due("all but two", x.astray(), 5);
        change(x, 2, 0, 9, 0, 0);
        change(x, 3, 9, 0, 0, 0);
        CHECKS.due("each against each", x.astray(), 6);
    }

    /** QUERIES at 0, one behind the other. */
    private static SharedShelf queriesInOrder(int count) {
        SharedShelf x = new SharedShelf(3);
        for (int k = 0; k < count; k++) {
            x.query(0, 10, 0);
            x.calm(2000);
        }
        return x;
    }

    private static void aheadButNotAtMost() throws ReflectiveOperationException {
        CHECKS.sentence("15: pairs of which the first was DONE ahead of the second one's beginning, "
                + "and its VIEW is not at most the second's");
        SharedShelf x = queriesInOrder(3);
        CHECKS.due("all alike", x.astray(), 0);
        change(x, 3, 0, 0, 1);
        CHECKS.due("the last one sees more", x.astray(), 0);
        change(x, 1, 0, 0, 2);
        CHECKS.due("the first one sees more than both", x.astray(), 2);
        change(x, 2, 0, 0, 2);
        CHECKS.due("the last one sees less than both", x.astray(), 2);
        change(x, 2, 0, 1, 0);
        // 1 and 2, 2 and 3: in both ways; 1 and 3: the second way.
        CHECKS.due("pairs of both ways", x.astray(), 5);
    }

    private static void aheadAndMissed() throws ReflectiveOperationException {
        CHECKS.sentence("15: or it is an UPDATE that the second's VIEW has not");
        SharedShelf x = new SharedShelf(3);
        x.update(1, 0, 1, 0);
        x.calm(2000);
        x.update(1, 0, 1, 0);
        x.calm(2000);
        x.query(0, 10, 0);
        x.calm(2000);
        CHECKS.due("it has both", x.astray(), 0);
        change(x, 3, 0, 1, 0);
        CHECKS.due("it has the first alone", x.astray(), 1);
        change(x, 3, 0, 0, 0);
        CHECKS.due("it has none", x.astray(), 2);
        change(x, 3, 9, 0, 9);
        CHECKS.due("it has none, but others", x.astray(), 3);
        change(x, 3, 0, 3, 0);
        CHECKS.due("it has more than there are", x.astray(), 0);
    }

    private static void notAhead() throws ReflectiveOperationException {
        CHECKS.sentence("15: the first was DONE ahead of the second one's beginning (not while it is under way)");
        SharedShelf x = new SharedShelf(3);
        x.update(1, 0, 1, 0);
        Steps.throughPhases(x, 1, 4);
        Steps.toTheBrink(x, 1);
        x.query(0, 10, 0);
        Steps.throughPhase(x, 1);
        CHECKS.due("DONE in the MOMENT behind that", x.told(1, 6), x.told(2, 5) + 1);
        Steps.throughOperation(x, 0);
        change(x, 2, 0, 0, 0);
        CHECKS.due("missed, but not ahead", x.astray(), 0);
        change(x, 1, 0, 0, 1);
        CHECKS.due("not at most, but not ahead", x.astray(), 0);
        SharedShelf y = new SharedShelf(3);
        y.update(1, 0, 1, 0);
        Steps.throughOperation(y, 1);
        y.query(0, 10, 0);
        CHECKS.due("DONE in the MOMENT ahead of that", y.told(1, 6), y.told(2, 5) - 1);
        Steps.throughOperation(y, 0);
        change(y, 2, 0, 0, 0);
        CHECKS.due("missed", y.astray(), 1);
    }

    private static void beganBehind() throws ReflectiveOperationException {
        CHECKS.sentence("15: OPERATIONS whose VIEW has an UPDATE that began behind the MOMENT in which they were DONE");
        SharedShelf x = new SharedShelf(3);
        x.query(0, 10, 0);
        Steps.throughOperation(x, 0);
        Steps.write(x, 1, 1);
        Steps.write(x, 1, 1);
        CHECKS.due("it began behind it at once", x.told(2, 5), x.told(1, 6) + 1);
        change(x, 1, 0, 2, 0);
        // 1 sees two that began behind it, and counts once; it is not at most 2, nor at most 3.
        CHECKS.due("once, however many", x.astray(), 3);
        change(x, 1, 0, 0, 0);
        change(x, 2, 0, 2, 0);
        // 2 sees itself and 3, which is the last of all; what it sees is at most what 3 sees but for that.
        CHECKS.due("the last of all", x.astray(), 2);
        SharedShelf y = new SharedShelf(3);
        y.query(0, 10, 0);
        Steps.throughPhases(y, 0, 3);
        Steps.toTheBrink(y, 0);
        y.update(1, 0, 1, 0);
        Steps.throughPhase(y, 0);
        CHECKS.due("it began at once ahead of it", y.told(2, 5), y.told(1, 6) - 1);
        Steps.throughOperation(y, 1);
        change(y, 1, 0, 1, 0);
        change(y, 2, 0, 1, 0);
        CHECKS.due("while it was under way", y.astray(), 0);
    }

    private static void withoutView() throws ReflectiveOperationException {
        CHECKS.sentence("15: over all that have a VIEW");
        SharedShelf x = new SharedShelf(3);
        CHECKS.due("of a new object", x.astray(), 0);
        Steps.write(x, 1, 1);
        x.query(0, 10, 0);
        Steps.throughPhases(x, 0, 3);
        change(x, 2, 9, 0, 0);
        CHECKS.due("what has no VIEW yet does not count", x.astray(), 0);
        change(x, 2, 0, 1, 0);
        Steps.throughOperation(x, 0);
        change(x, 2, 9, 0, 0);
        CHECKS.due("with it, it does", x.astray(), 1);
        SharedShelf y = new SharedShelf(3);
        y.query(0, 10, 0);
        Steps.write(y, 1, 1);
        y.query(2, 10, 0);
        Steps.throughOperation(y, 2);
        change(y, 1, 9, 0, 0);
        CHECKS.due("nor does one that began ahead of them", y.astray(), 0);
    }
}
