/** An object and its model, which get the same calls; no more than 512. */
final class Twin {
    private static final int CALLS = 512;

    private final Due due;
    private final String name;
    private final SlotScreen x = new SlotScreen();
    private final Model model = new Model();
    private int calls;

    Twin(Due due, String name) {
        this.due = due;
        this.name = name;
    }

    boolean hasCallsLeft() {
        return calls < CALLS;
    }

    /** Does nothing when the calls are used up. */
    void call(String callName, int... arguments) {
        if (hasCallsLeft()) {
            calls++;
            Call call = new Call(callName, arguments);
            int got = call.on(x);
            int want = model.answer(call);
            if (got != want) {
                due.tell(name + ", call " + calls + ": " + call + " answered " + got + ", due is " + want);
            }
        }
    }

    void register(int n, int v) {
        call("out", 1, v);
        call("out", 1, 128 + n);
    }

    void pointAt(int place) {
        call("out", 1, place % 256);
        call("out", 1, 64 + place / 256);
    }
}
