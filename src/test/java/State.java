/**
 * All that can be told of an object by its calls, as a text. Telling it changes the object: it is done on a
 * twin that nothing else is asked afterwards.
 */
final class State {
    private static final int STEP_OF_NONE = 1 << 12;

    private final Run run;
    private final StringBuilder text = new StringBuilder();

    private State(Run run) {
        this.run = run;
    }

    static String of(Run run) {
        State state = new State(run);
        state.tellCounts();
        state.tellRow();
        state.tellActs();
        state.tellTables();
        state.tellChords();
        state.tellRhythms();
        state.tellRule();
        return state.text.toString();
    }

    private long tell(String name, long... numbers) {
        long answer = run.ask(name, numbers);
        text.append(answer).append(' ');
        return answer;
    }

    private void begin(String part) {
        text.append("| ").append(part).append(": ");
    }

    private void tellCounts() {
        begin("counts");
        for (int what = 0; what < 6; what++) {
            tell("count", what);
        }
    }

    private void tellRow() {
        begin("row");
        long notes = run.ask("count", 0);
        for (int i = 0; i < notes; i++) {
            tell("at", i, 0);
            tell("at", i, 1);
        }
        tell("place");
    }

    /** Meant itself can't be asked; what its acts cost beside the row tells of it. */
    private void tellActs() {
        begin("acts");
        long acts = run.ask("count", 2);
        for (int i = 0; i < acts; i++) {
            for (int what = 0; what < 4; what++) {
                tell("act", i, what);
            }
        }
        tell("judge");
    }

    private void tellTables() {
        begin("tables");
        for (int pupil = 0; pupil < 6; pupil++) {
            for (int size = 0; size <= 12; size++) {
                tell("table", pupil, size, 0);
                tell("table", pupil, size, 1);
            }
        }
    }

    private void tellChords() {
        begin("chords");
        long last = tell("chords") - 1;
        long masks = run.ask("count", 3);
        for (int i = 0; i < masks; i++) {
            for (int v = 0; v < 3; v++) {
                tell("chord", 0, i, v);
                tell("chord", last, i, v);
            }
        }
        for (int way = 0; way < 4; way++) {
            tell("voice", way, 0);
        }
    }

    private void tellRhythms() {
        begin("rhythms");
        long last = tell("rhythms") - 1;
        long notes = tell("rhythm", last);
        for (int i = 0; i < notes; i++) {
            tell("at", i, 1);
        }
    }

    /** Where only the step of 0 is left, there is a melody for each pitch from LOW to HIGH. */
    private void tellRule() {
        begin("rule");
        tell("melodies");
        tell("bits", 0, 4095);
        tell("bits", 1, 4095);
        tell("bits", 2, 4095);
        tell("bits", 3, STEP_OF_NONE);
        tell("bound", 0, 13);
        tell("bound", 1, 15);
        tell("melodies");
        tell("melody", 0);
        tell("at", 0, 0);
    }
}
