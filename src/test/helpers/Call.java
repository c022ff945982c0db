/** One call that may change an object, to be made on the program and on the model alike. */
record Call(int what, int first, int second) {
    static final int PROPOSE = 0;
    static final int BEGIN = 1;
    static final int DELIVER = 2;
    static final int DROP = 3;
    static final int HALT = 4;

    private static final String[] NAMES = {"propose", "begin", "deliver", "drop", "halt"};

    /** Makes the call; true and false are told as 1 and 0. */
    int on(Face x) {
        switch (what) {
            case PROPOSE:
                return x.propose(first, second);
            case BEGIN:
                return x.begin(first, second);
            case DELIVER:
                return x.deliver(first);
            case DROP:
                return x.drop(first) ? 1 : 0;
            default:
                return x.halt(first, second == 1) ? 1 : 0;
        }
    }

    boolean isRefusedWith(int answer) {
        return answer == (what == DROP || what == HALT ? 0 : FastBallots.BAD);
    }

    @Override
    public String toString() {
        return NAMES[what] + "(" + first + ", " + second + ")";
    }
}
