/** Hands out an object for one call, and a new one after 512 of them: more are not promised. */
final class Fresh {
    static final int CALLS = 512;

    private SevenKeys object = new SevenKeys();
    private int calls = 0;

    SevenKeys x() {
        if (calls == CALLS) {
            object = new SevenKeys();
            calls = 0;
        }
        calls++;
        return object;
    }
}
