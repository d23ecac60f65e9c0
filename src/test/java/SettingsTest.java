/** Promises 2 to 5: clock, link, sensor and fault, with their bounds and wrong inputs. */
final class SettingsTest {
    private static final int MIN = Integer.MIN_VALUE;
    private static final int MAX = Integer.MAX_VALUE;
    private static final int[] NO_NODES = {-1, 4, 5, 7, MIN, MAX};

    public static void main(String[] args) {
        Check check = new Check();
        clocks(check);
        wrongClocks(check);
        links(check);
        wrongLinks(check);
        sensors(check);
        faults(check);
        wrongFaults(check);
        check.end();
    }

    private static void clocks(Check check) {
        VotedFrames x = new VotedFrames(4, 1, 20);
        check.yes("clock(0, -500, -2)", x.clock(0, -500, -2));
        check.yes("clock(3, 500, 2)", x.clock(3, 500, 2));
        check.due("reading(0)", x.reading(0), -500);
        check.due("reading(3)", x.reading(3), 500);
        check.due("reading(1)", x.reading(1), 0);
        x.run(3);
        check.due("reading(0): too far away, drift alone", x.reading(0), -506);
        check.due("reading(3)", x.reading(3), 506);
        check.yes("clock(3, 7, 0) behind a frame", x.clock(3, 7, 0));
        check.due("reading(3)", x.reading(3), 7);
    }

    private static void wrongClocks(Check check) {
        VotedFrames x = new VotedFrames(4, 1, 20);
        x.clock(1, 3, 1);
        for (int i : NO_NODES) {
            check.no("clock of no node " + i, x.clock(i, 1, 1));
        }
        for (int offset : new int[] {-501, 501, MIN, MAX}) {
            check.no("clock(1, " + offset + ", 0)", x.clock(1, offset, 0));
        }
        for (int drift : new int[] {-3, 3, MIN, MAX}) {
            check.no("clock(1, 9, " + drift + ")", x.clock(1, 9, drift));
        }
        check.due("reading(1) is as before", x.reading(1), 3);
        x.run(1);
        check.due("reading(1): 3 + floor(-9 / 4) + drift 1", x.reading(1), 1);
    }

    private static void links(Check check) {
        VotedFrames x = new VotedFrames(4, 0, 10);
        check.yes("link(1, 0, 0, -3)", x.link(1, 0, 0, -3));
        check.yes("link(2, 0, 20, 3)", x.link(2, 0, 20, 3));
        check.yes("link(3, 0, 20, 3)", x.link(3, 0, 20, 3));
        x.run(1);
        check.due("correction(0): (-3 + 3 + 3) / 4", x.correction(0), 0);
        check.due("correction(1): the error goes one way", x.correction(1), 0);
        check.yes("link(1, 0, 1, 3)", x.link(1, 0, 1, 3));
        x.run(1);
        check.due("correction(0): (3 + 3 + 3) / 4", x.correction(0), 2);
        check.due("correction(1)", x.correction(1), 0);
    }

    private static void wrongLinks(Check check) {
        VotedFrames x = new VotedFrames(4, 0, 10);
        x.sensor(1, 5);
        x.link(1, 0, 2, 3);
        for (int i : NO_NODES) {
            check.no("link from no node " + i, x.link(i, 0, 0, 0));
            check.no("link to no node " + i, x.link(1, i, 0, 0));
        }
        for (int i = 0; i < 4; i++) {
            check.no("link from " + i + " to itself", x.link(i, i, 0, 0));
        }
        for (int delay : new int[] {-1, 21, MIN, MAX}) {
            check.no("link(1, 0, " + delay + ", 0)", x.link(1, 0, delay, 0));
        }
        for (int error : new int[] {-4, 4, MIN, MAX}) {
            check.no("link(1, 0, 0, " + error + ")", x.link(1, 0, 0, error));
        }
        x.clock(0, 29, 0);
        x.run(1);
        check.due("input(0, 1): 29 + delay 2 is more than 30", x.input(0, 1), 0);
        x.clock(0, 0, 0);
        x.clock(1, 0, 0);
        x.clock(2, 0, 0);
        x.clock(3, 0, 0);
        x.run(1);
        check.due("correction(0): error 3 / 4", x.correction(0), 0);
        x.clock(1, 1, 0);
        x.run(1);
        check.due("correction(0): (1 + error 3) / 4", x.correction(0), 1);
    }

    private static void sensors(Check check) {
        VotedFrames x = new VotedFrames(4, 1, 10);
        check.yes("sensor(0, MIN)", x.sensor(0, MIN));
        check.yes("sensor(1, MAX)", x.sensor(1, MAX));
        check.yes("sensor(3, -7)", x.sensor(3, -7));
        for (int i : NO_NODES) {
            check.no("sensor of no node " + i, x.sensor(i, 1));
        }
        check.due("input(2, 0) before a frame", x.input(2, 0), 0);
        x.run(1);
        for (int i = 0; i < 4; i++) {
            check.due("input(" + i + ", 0)", x.input(i, 0), MIN);
            check.due("input(" + i + ", 1)", x.input(i, 1), MAX);
            check.due("input(" + i + ", 2)", x.input(i, 2), 0);
            check.due("input(" + i + ", 3)", x.input(i, 3), -7);
        }
        x.sensor(3, 8);
        check.due("input(0, 3) is of the latest frame", x.input(0, 3), -7);
        x.run(1);
        check.due("input(0, 3)", x.input(0, 3), 8);
    }

    private static void faults(Check check) {
        VotedFrames x = new VotedFrames(4, 1, 10);
        for (int kind = 0; kind <= 5; kind++) {
            check.yes("fault(0, " + kind + ", -5000)", x.fault(0, kind, -5000));
            check.yes("fault(0, " + kind + ", 5000)", x.fault(0, kind, 5000));
        }
        check.yes("fault(3, 2, 5000)", x.fault(3, 2, 5000));
        check.yes("fault(0, 0, 5000)", x.fault(0, 0, 5000));
        x.sensor(0, 4);
        x.run(1);
        check.due("input(1, 3)", x.input(1, 3), 5000);
        check.due("input(1, 0): CORRECT whatever x", x.input(1, 0), 4);
    }

    private static void wrongFaults(Check check) {
        VotedFrames x = new VotedFrames(4, 1, 10);
        x.fault(2, 2, 9);
        for (int i : NO_NODES) {
            check.no("fault of no node " + i, x.fault(i, 0, 0));
        }
        for (int kind : new int[] {-1, 6, MIN, MAX}) {
            check.no("fault(2, " + kind + ", 0)", x.fault(2, kind, 0));
        }
        for (int number : new int[] {-5001, 5001, MIN, MAX}) {
            for (int kind = 0; kind <= 5; kind++) {
                check.no("fault(2, " + kind + ", " + number + ")", x.fault(2, kind, number));
            }
        }
        x.run(1);
        check.due("input(0, 2) is as before", x.input(0, 2), 9);
    }
}
