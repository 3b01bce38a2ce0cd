/** Promises 23 to 27: command text, undo and checksum. */
public final class CommandsTest {
    private CommandsTest() {
    }

    public static void main(String[] args) {
        Check.endInTime("CommandsTest");
        promise23Type();
        promise24ClearCommands();
        promise25Faults();
        promise25Runs();
        promise25StopsAtAnException();
        promise26Undo();
        promise27Digest();
        Check.end("CommandsTest");
    }

    private static void promise23Type() {
        LampMural m = new LampMural();
        Check.argument("type(128)", m, () -> m.type(128));
        Check.argument("type(-1)", m, () -> m.type(-1));
        Check.due("type(0)", m.type(0), 1);
        Check.due("type(127)", m.type(127), 2);
        for (int i = 3; i <= 150; i++) {
            Check.due("type(32)", m.type(32), i);
        }
        Check.due("length of the text", m.whole(14), 150);
        Check.state("type(32) at 150 bytes", m, () -> m.type(32));
        Check.argument("type(128) at 150 bytes", m, () -> m.type(128));
        Check.state("type saves no state", m, m::undo);
    }

    private static void promise24ClearCommands() {
        LampMural m = new LampMural();
        Check.due("clearCommands() of nothing", m.clearCommands(), 0);
        Check.typed(m, "burn 7;burn 8;");
        Check.due("clearCommands()", m.clearCommands(), 14);
        Check.due("length then", m.whole(14), 0);
        Check.due("the empty text runs", m.runCommands(), 0);
        m.type('b');
        Check.due("nothing is left of the old text", m.runCommands(), -10);
        m.clearCommands();
        for (char c : "burn 5".toCharArray()) {
            m.type(c);
        }
        Check.due("nothing is left of the old semicolon", m.runCommands(), -16);
        Check.due("clearing is not undoable", m.undo(), 0);
        Check.due("length after undo", m.whole(14), 6);
    }

    private static void fault(String text, int fault) {
        LampMural m = Check.typed(new LampMural(), text);
        long before = m.digest();
        Check.due("runCommands() of '" + text + "'", m.runCommands(), -10 - fault);
        Check.due("'" + text + "' changed nothing", m.digest(), before);
    }

    private static void promise25Faults() {
        fault(";", 0);
        fault("  ;", 2);
        fault("1", 0);
        fault("-", 0);
        fault("x", 0);
        fault(" wal 1 2;", 1);
        fault(" walls 1 2;", 1);
        fault("pall 1 2;", 0);
        fault("faint 0 0 0 0 0;", 0);
        fault("damp 1 1;", 0);
        fault("forner 0 0 0 0;", 0);
        fault("whift 1 1;", 0);
        fault("mail 0;", 0);
        fault("send 0;", 0);
        fault("turn 1;", 0);
        fault("wallx", 0);
        fault("burnburn 1;", 0);
        fault("Burn 1;", 0);
        fault("bUrn 1;", 0);
        fault("burN 1;", 0);
        fault("burnN 1;", 4);
        fault("burn", 4);
        fault("burn ", 5);
        fault("burn;", 4);
        fault("burn1;", 4);
        fault("burn-1;", 4);
        fault("burn ;", 5);
        fault("burn -", 6);
        fault("burn -;", 6);
        fault("burn --1;", 6);
        fault("burn - 1;", 6);
        fault("burn +1;", 5);
        fault("burn 1", 6);
        fault("burn 1  ", 8);
        fault("burn 1-", 6);
        fault("burn 1 -1;", 7);
        fault("burn 1 2;", 7);
        fault("burn 1a;", 6);
        fault("burn 1,", 6);
        fault("burn 12345;", 9);
        fault("burn -00001;", 10);
        fault("burn 1;;", 7);
        fault("burn 1; x", 8);
        fault("burn 1; burn", 12);
        fault("burn\t1;", 4);
        fault("wall 5;", 6);
        fault("wall 5 6 7;", 9);
        fault("wall 12345 1;", 9);
        fault("paint 0 0 0 0;", 13);
        fault("paint 0 0 0 0 0 0;", 16);
        fault("lamp 1;", 6);
        fault("lamp 1 1 1;", 9);
        fault("corner 0 0 0;", 12);
        fault("corner 0 0 0 0 0;", 15);
        fault("shift 0;", 7);
        fault("shift 0 0 0;", 10);
        fault("fail;", 4);
        fault("fail 0 0;", 7);
        fault("mend;", 4);
        fault("mend 0 0;", 7);
        fault("fai", 0);
        fault("fail", 4);
    }

    private static void promise25Runs() {
        LampMural m = Check.typed(new LampMural(), "   ");
        Check.due("spaces alone", m.runCommands(), 0);
        Check.due("an empty run is undoable", m.undo(), 0);
        Check.typed(m, "  wall  4   3;paint 0 0 3 2 0050 ; lamp 60 5;lamp 70 0;corner 1 1 4 0;corner 1 2 4 3;"
                + "corner 1 3 0 3;shift 0 -0;fail 0;burn 10;  ");
        Check.due("runCommands()", m.runCommands(), 10);
        int[] whole = {4, 3, 0, 0, 2, 1, 12, 0, 0, 0, 600, 600, 10, 0, 128};
        for (int what = 0; what < whole.length; what++) {
            Check.due("whole(" + what + ") after the run", m.whole(what), whole[what]);
        }
        Check.due("greatest light of the lamp 1", m.lamp(1, 0), 70);
        Check.due("wear: 10 * 71 / 100", m.lamp(1, 2), 7);
        Check.due("the lamp 0 has failed", m.lamp(0, 3), 0);
        Check.due("the text stays, and runs again", m.runCommands(), 10);
        Check.due("lamps then", m.whole(4), 4);
        Check.typed(m, "mend 0;shift -0003 2;");
        Check.due("runCommands() of mend and shift", m.runCommands(), 2);
        Check.due("the lamp 0 works", m.lamp(0, 3), 1);
        Check.due("sx", m.whole(2), -3);
        Check.due("sy", m.whole(3), 2);
        Check.due("a run saves one state", m.undo(), 2);
        Check.due("undo() of the second run", m.undo(), 1);
        Check.due("lamps then", m.whole(4), 2);
        Check.due("undo() of the first run", m.undo(), 0);
        Check.due("columns then", m.whole(0), 12);
        Check.due("hours then", m.whole(12), 0);
        Check.typed(m, "burn 9;burn 99;burn 9;burn 9;burn 9;burn 9;burn 9;burn 9;burn 9;burn 9;burn 9;burn 9;burn 9;"
                + "burn 9;burn 9;burn 9;burn 9;burn 9;burn 9;burn 9;burn 9;");
        Check.due("21 commands", m.runCommands(), 21);
        Check.due("hours", m.whole(12), 279);
        burningSeesTheCommandsBefore();
        LampMural n = Check.typed(new LampMural(), "burn 1");
        Check.due("runCommands() of an unended command", n.runCommands(), -16);
        n.type(';');
        Check.due("runCommands() when it has ended", n.runCommands(), 1);
        n.type('b');
        Check.due("runCommands() of a new fault", n.runCommands(), -17);
        Check.due("a text with a fault saves no state", n.undo(), 0);
    }

    private static void burningSeesTheCommandsBefore() {
        LampMural m = new LampMural();
        m.begin(1, 1);
        m.addLamp(100, 0);
        m.setRectangle(0, 0, 0, 1, 1);
        Check.due("load of a dark wall", m.lamp(0, 9), 0);
        Check.typed(m, "paint 0 0 0 0 100;burn 100;burn 100;paint 0 0 0 0 40;burn 100;");
        Check.due("runCommands()", m.runCommands(), 5);
        Check.due("wear: 100, 100 and 50", m.lamp(0, 2), 250);
    }

    private static void stops(String text, int done) {
        LampMural m = new LampMural();
        m.addLamp(1, 1);
        Check.typed(m, "burn 1;" + text + "burn 2;");
        Check.due("runCommands() of '" + text + "'", m.runCommands(), done + 1);
        Check.due("hours of '" + text + "'", m.whole(12), 1);
        Check.due("undo() of '" + text + "'", m.undo(), 1);
        Check.due("hours before '" + text + "'", m.whole(12), 0);
    }

    private static void promise25StopsAtAnException() {
        stops("wall 0 1;", 0);
        stops("wall 1 17;", 0);
        stops("paint 0 0 12 0 0;", 0);
        stops("paint 1 0 0 0 0;", 0);
        stops("paint 0 0 0 0 256;", 0);
        stops("lamp 256 0;", 0);
        stops("lamp 0 -1;", 0);
        stops("corner 1 0 0 0;", 0);
        stops("corner 0 4 0 0;", 0);
        stops("corner 0 0 41 0;", 0);
        stops("corner 0 0 0 -21;", 0);
        stops("shift 11 0;", 0);
        stops("shift 0 -11;", 0);
        stops("fail 1;", 0);
        stops("fail -1;", 0);
        stops("mend 1;", 0);
        stops("burn 0;", 0);
        stops("fail 0;mend 0;burn -1;", 2);
        stops("lamp 1 1;lamp 1 1;lamp 1 1;lamp 1 1;lamp 1 1;lamp 1 1;lamp 1 1;lamp 1 1;", 7);
        LampMural m = Check.typed(new LampMural(), "fail 0;");
        Check.due("a run of which nothing is done", m.runCommands(), 0);
        Check.due("it is undoable", m.undo(), 0);
    }

    private static void promise26Undo() {
        LampMural m = new LampMural();
        Check.state("undo() of nothing", m, m::undo);
        long first = m.digest();
        m.burn(1);
        Check.due("undo() of one", m.undo(), 0);
        Check.due("the state before", m.digest(), first);
        for (int i = 1; i <= 6; i++) {
            m.burn(i);
        }
        m.type('x');
        int[] hours = {15, 10, 6, 3};
        for (int i = 0; i < 4; i++) {
            Check.due("undo() " + i, m.undo(), 3 - i);
            Check.due("hours " + i, m.whole(12), hours[i]);
        }
        Check.due("the text stays", m.whole(14), 1);
        Check.state("undo() after four", m, m::undo);
        everyUndoableCallSavesOneState();
        undoRestoresAll();
    }

    private static void everyUndoableCallSavesOneState() {
        LampMural m = new LampMural();
        m.addLamp(1, 1);
        m.undo();
        Check.Call[] calls = {() -> m.begin(12, 8), () -> m.paint(0, 0, 0, 0, 0), () -> m.addLamp(3, 3),
            () -> m.shift(0, 0), () -> m.burn(1), m::runCommands};
        for (int i = 0; i < calls.length; i++) {
            calls[i].answer();
            Check.due("undo() of the call " + i, m.undo(), 0);
        }
        m.addLamp(1, 1);
        Check.Call[] more = {() -> m.setCorner(0, 0, 0, 0), () -> m.setRectangle(0, 0, 0, 1, 1),
            () -> m.setLamp(0, 0, 1), () -> m.setWorks(0, true)};
        for (int i = 0; i < more.length; i++) {
            more[i].answer();
            Check.due("undo() of the lamp's call " + i, m.undo(), 1);
        }
        m.place(0, 0, 0);
        m.bestShift(1);
        m.clearCommands();
        m.digest();
        Check.due("calls that only look save no state", m.undo(), 0);
    }

    private static void undoRestoresAll() {
        LampMural m = new LampMural();
        m.begin(3, 3);
        m.addLamp(100, 9);
        m.setRectangle(0, 0, 0, 3, 2);
        m.paint(0, 0, 2, 2, 66);
        m.setLamp(0, 2, 77);
        m.burn(3);
        m.shift(1, -1);
        m.setWorks(0, false);
        long before = m.digest();
        Check.typed(m, "wall 2 2;lamp 7 7;corner 0 0 9 9;paint 0 0 1 1 3;shift 5 5;mend 0;burn 40;");
        Check.due("runCommands()", m.runCommands(), 7);
        m.undo();
        m.clearCommands();
        m.shift(1, -1);
        Check.due("the digest after undo", m.digest(), before);
        undoRestoresEachValue();
    }

    private static void undoRestoresEachValue() {
        LampMural m = new LampMural();
        m.begin(3, 3);
        m.addLamp(100, 9);
        m.setRectangle(0, 0, 0, 3, 2);
        m.paint(0, 0, 2, 2, 66);
        m.burn(3);
        m.shift(1, -1);
        long before = m.digest();
        Check.Call[] calls = {() -> m.begin(2, 4), () -> m.paint(0, 1, 2, 1, 5), () -> m.addLamp(50, 60),
            () -> m.setCorner(0, 2, 9, 9), () -> m.setRectangle(0, 1, 1, 9, 9), () -> m.setLamp(0, 0, 50),
            () -> m.setLamp(0, 1, 80), () -> m.setLamp(0, 2, 800), () -> m.setWorks(0, false),
            () -> m.shift(0, 0), () -> m.shift(1, 0), () -> m.burn(1000)};
        for (int i = 0; i < calls.length; i++) {
            calls[i].answer();
            m.digest();
            m.undo();
            m.shift(1, -1);
            Check.due("the digest after undo of the call " + i, m.digest(), before);
        }
        m.shift(3, 3);
        Check.due("sum of the brightness far away", m.whole(11), 0);
        m.undo();
        Check.due("sum of the brightness after undo", m.whole(11), 264);
        Check.due("sx after undo", m.whole(2), 1);
    }

    private static void promise27Digest() {
        LampMural m = new LampMural();
        m.begin(2, 1);
        m.addLamp(100, 7);
        m.addLamp(30, 3);
        m.setRectangle(0, 0, 0, 1, 1);
        m.setRectangle(1, -1, -2, 2, 5);
        m.setCorner(1, 0, -3, -2);
        m.paint(0, 0, 1, 0, 99);
        m.burn(5);
        m.type('a');
        long h = 43276;
        h = 31 * h + 4;
        for (int what = 0; what <= 14; what++) {
            h = 31 * h + m.whole(what);
        }
        for (int n = 0; n < 2; n++) {
            for (int what = 0; what <= 11; what++) {
                h = 31 * h + m.lamp(n, what);
            }
            for (int i = 0; i < 8; i++) {
                h = 31 * h + m.corner(n, i / 2, i % 2);
            }
        }
        for (int x = 0; x < 2; x++) {
            for (int what = 0; what <= 5; what++) {
                h = 31 * h + m.place(x, 0, what);
            }
            h = 31 * h + m.light(0, x, 0);
            h = 31 * h + m.light(1, x, 0);
        }
        Check.due("digest()", m.digest(), h);
        Check.due("digest() again", m.digest(), h);
    }
}
