/** The calls of the document's face, so that the program and the model can be asked in one way. */
interface Face {
    int propose(int slot, int value);

    int begin(int slot, int round);

    int deliver(int i);

    boolean drop(int i);

    boolean halt(int who, boolean on);

    int waiting();

    int lost();

    int message(int i);

    int value(int i);

    int round(int acceptor, int slot);

    int vote(int acceptor, int slot);

    int voteRound(int acceptor, int slot);

    int leads(int coordinator, int slot);

    int phase(int coordinator, int slot);

    int learned(int slot);

    int chosen(int slot);

    int votes(int slot, int round, int value);

    int size(int what);
}
