/** Raises a tower of four floors, lets it sink by a decade, and asks on the way what can be asked. */
public final class Example {
    /** Four floors, floor 1 a landing; record 1 is joined with record 0; 2 and 3 cite record 0. */
    private static final String TEXT = "T420001530R25100R13230R38010R19322Q20Q30";

    public static void main(String[] args) {
        SinkingArchive x = new SinkingArchive();
        for (int i = 0; i < TEXT.length(); i++) {
            x.write(1, TEXT.charAt(i));
        }
        raise(x);
        plan(x);
        act(x);
        ask(x);
        goOn(x);
    }

    private static void raise(SinkingArchive x) {
        tell("fault()", x.fault());
        tell("tower()", x.tower());
        tell("cites(2, 0)", x.cites(2, 0));
        tell("together(1)", x.together(1));
        tell("about(7)", x.about(7));
    }

    private static void plan(SinkingArchive x) {
        tell("most(2)", x.most(2));
        tell("least(2)", x.least(2));
        tell("planAt(2, 2)", x.planAt(2, 2));
    }

    private static void act(SinkingArchive x) {
        tell("carry(2, 2)", x.carry(2, 2));
        tell("carry(0, 2)", x.carry(0, 2));
        tell("decade()", x.decade());
        tell("dive(9, 0)", x.dive(9, 0));
        tell("dive(9, 1)", x.dive(9, 1));
        tell("dive(9, 2)", x.dive(9, 2));
        tell("anew(0, 3)", x.anew(0, 3));
        tell("record(0, 3)", x.record(0, 3));
        tell("floor(3, 2)", x.floor(3, 2));
    }

    private static void ask(SinkingArchive x) {
        tell("about(8)", x.about(8));
        tell("atHand()", x.atHand());
        tell("lookUp(2)", x.lookUp(2));
        tell("lies(true)", x.lies(true));
        tell("lies(false)", x.lies(false));
        tell("mend()", x.mend());
        tell("index(0, 2)", x.index(0, 2));
        tell("dry(0, 2, 3, true)", x.dry(0, 2, 3, true));
        tell("dry(0, 2, 3, false)", x.dry(0, 2, 3, false));
    }

    private static void goOn(SinkingArchive x) {
        tell("keep(0)", x.keep(0));
        tell("undo()", x.undo());
        tell("effort(20)", x.effort(20));
        tell("again(0)", x.again(0));
        tell("undo()", x.undo());
        tell("wipe()", x.wipe());
    }

    private static void tell(String call, long answer) {
        System.out.println(call + " = " + answer);
    }
}
