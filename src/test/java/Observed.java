/** All of the state that calls can show, as a text. Reading it uses the analyzer up. */
final class Observed {
    private final AmbiguityAnalyzer x;
    private final StringBuilder seen = new StringBuilder();

    private Observed(AmbiguityAnalyzer x) {
        this.x = x;
    }

    static String all(AmbiguityAnalyzer x) {
        Observed observed = new Observed(x);
        observed.automaton("automaton");
        observed.word();
        observed.weights();
        observed.result();
        observed.shelves();
        observed.text();
        observed.saved();
        return observed.seen.toString();
    }

    /** Only the automaton; the analyzer can be used further. */
    static String automaton(AmbiguityAnalyzer x) {
        Observed observed = new Observed(x);
        observed.automaton("automaton");
        return observed.seen.toString();
    }

    private void see(long answer) {
        seen.append(' ').append(answer);
    }

    private void automaton(String name) {
        seen.append(' ').append(name);
        see(x.stateCount());
        see(x.initialStates());
        see(x.finalStates());
        see(x.transitionCount());
        for (int i = 0; i < 3 * x.stateCount(); i++) {
            see(x.successors(i / 3, i % 3));
        }
    }

    private void word() {
        seen.append(" word");
        see(x.wordLength());
        for (int i = 0; i < x.wordLength(); i++) {
            see(x.wordLetter(i));
        }
    }

    private void weights() {
        seen.append(" weights");
        for (int letter = 0; letter < 3; letter++) {
            see(x.setWeight(letter, 1));
        }
    }

    private void result() {
        int states = x.resultStateCount();
        seen.append(" result");
        see(states);
        see(x.resultInitials());
        see(x.resultFinals());
        see(x.resultAmbiguity());
        for (int i = 0; i < 3 * states; i++) {
            see(x.resultSuccessors(i / 3, i % 3));
        }
    }

    private void shelves() {
        for (int shelf = 0; shelf < 4; shelf++) {
            int length = x.useWord(shelf);
            seen.append(" shelf");
            see(length);
            int elements = length == AmbiguityAnalyzer.WRONG_TYPE ? 31 : length;
            for (int i = 0; i < elements; i++) {
                see(x.shelfElement(shelf, i));
            }
        }
    }

    private void text() {
        x.reset(6);
        seen.append(" text");
        see(x.parse());
        automaton("from the text");
    }

    private void saved() {
        seen.append(" saved");
        see(x.restore());
        automaton("saved");
        weights();
    }
}
