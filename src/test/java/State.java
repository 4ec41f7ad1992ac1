/** All that the face tells of an object, as one text: it stays the same as long as nothing is done. */
final class State {
    private State() { }

    static String of(SharedShelf x) {
        StringBuilder text = new StringBuilder();
        for (int what = 0; what <= 9; what++) {
            text.append(x.count(what)).append(' ');
        }
        nodes(x, text);
        messages(x, text);
        operations(x, text);
        return text.append(x.astray()).toString();
    }

    private static void nodes(SharedShelf x, StringBuilder text) {
        for (int k = 0; k < x.count(0); k++) {
            for (int what = 0; what <= 5; what++) {
                text.append(x.node(k, what)).append(' ');
            }
            for (int s = 0; s < x.count(0); s++) {
                text.append(x.kept(k, s)).append(' ');
            }
        }
    }

    private static void messages(SharedShelf x, StringBuilder text) {
        for (int i = 0; i < x.count(2); i++) {
            for (int what = 0; what <= 3; what++) {
                text.append(x.message(i, what)).append(' ');
            }
            for (int k = 0; k < x.count(0); k++) {
                text.append(x.vector(i, k)).append(' ');
            }
        }
    }

    private static void operations(SharedShelf x, StringBuilder text) {
        for (int o = 1; o <= x.count(5); o++) {
            for (int what = 0; what <= 9; what++) {
                text.append(x.told(o, what)).append(' ');
            }
            for (int k = 0; k < x.count(0); k++) {
                text.append(x.view(o, k)).append(' ');
            }
            text.append(x.answer(o)).append(' ');
        }
    }
}
