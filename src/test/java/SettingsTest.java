/** Promises 2 to 5: clock, link, sensor and fault, with their bounds and wrong inputs. */
final class SettingsTest {
    public static void main(String[] args) {
        Check check = new Check();
        clockBounds(check);
        wrongClocks(check);
        linkBounds(check);
        linksGoOneWay(check);
        linksOfNoTwoNodes(check);
        wrongLinkNumbers(check);
        sensorBounds(check);
        wrongSensors(check);
        faultBounds(check);
        wrongFaults(check);
        check.end();
    }

    private static void clockBounds(Check check) {
        check.sentence("Promise 2",
            "The clock of node i becomes offset (-500 .. 500), its drift drift (-2 .. 2)");
        VotedFrames x = new VotedFrames(5, 1, 20);
        check.yes("clock(0, -500, -2)", x.clock(0, -500, -2));
        check.yes("clock(4, 500, 2)", x.clock(4, 500, 2));
        check.due("reading(0)", x.reading(0), -500);
        check.due("reading(4)", x.reading(4), 500);
        check.due("reading(1)", x.reading(1), 0);
        x.run(3);
        check.due("reading(0): too far away, drift alone", x.reading(0), -506);
        check.due("reading(4)", x.reading(4), 506);
        check.yes("clock(4, 0, 0) behind a frame", x.clock(4, 0, 0));
        check.due("reading(4)", x.reading(4), 0);
        x.run(1);
        check.due("reading(4): no drift", x.reading(4), 0);
    }

    private static void wrongClocks(Check check) {
        check.sentence("Promise 2", "false if there is no such node or a number is not as said.");
        for (int n = 4; n <= 7; n++) {
            for (int i : Doc.outside(n)) {
                check.no("clock of no node " + i, new VotedFrames(n, 1, 20).clock(i, 1, 1));
            }
        }
        VotedFrames x = new VotedFrames(4, 1, 20);
        x.clock(1, 3, 1);
        for (int offset : new int[] {-501, 501, Doc.MIN, Doc.MAX}) {
            check.no("clock(1, " + offset + ", 0)", x.clock(1, offset, 0));
        }
        for (int drift : new int[] {-3, 3, Doc.MIN, Doc.MAX}) {
            check.no("clock(1, 9, " + drift + ")", x.clock(1, 9, drift));
        }
        check.due("reading(1) is as before", x.reading(1), 3);
        x.run(1);
        check.due("reading(1): 3 + floor(-9 / 4) + drift 1", x.reading(1), 1);
    }

    /** DELTA 1: a message is missing beyond 21; of four members each reads three. */
    private static void linkBounds(Check check) {
        check.sentence("Promise 3",
            "The delay from node j to another node i becomes delay (0 .. 20), the error error (-3 .. 3)");
        VotedFrames x = Doc.sensing(4, 0, 1);
        check.yes("link(1, 0, 20, -3)", x.link(1, 0, 20, -3));
        check.yes("link(2, 0, 20, -3)", x.link(2, 0, 20, -3));
        check.yes("link(3, 0, 0, -3)", x.link(3, 0, 0, -3));
        x.clock(0, 1, 0);
        x.run(1);
        check.due("input(0, 1): 1 + 20", x.input(0, 1), 200);
        check.due("correction(0): -4 three times, / 4", x.correction(0), -3);
        x.clock(0, 2, 0);
        x.run(1);
        check.due("input(0, 1): 2 + 20", x.input(0, 1), 0);
        check.due("input(0, 3): 2 + 0", x.input(0, 3), 400);
        VotedFrames y = Doc.sensing(4, 0, 1);
        for (int j = 1; j < 4; j++) {
            check.yes("link(" + j + ", 0, 20, 3)", y.link(j, 0, 20, 3));
            check.yes("link(" + j + ", 0, 0, 3)", y.link(j, 0, 0, 3));
        }
        y.clock(0, 21, 0);
        y.run(1);
        check.due("input(0, 1): 21 + 0", y.input(0, 1), 200);
        y.clock(0, 0, 0);
        y.run(1);
        check.due("correction(0): 3 three times, / 4", y.correction(0), 2);
    }

    private static void linksGoOneWay(Check check) {
        check.sentence("Promise 3", "The delay from node j to another node i");
        VotedFrames x = Doc.sensing(4, 0, 1);
        x.clock(2, 2, 0);
        x.link(3, 2, 20, 3);
        x.run(1);
        check.due("input(2, 3): 2 + 20", x.input(2, 3), 0);
        check.due("input(3, 2): -2 + 0", x.input(3, 2), 300);
        check.due("input(2, 1): another sender", x.input(2, 1), 200);
        check.due("correction(2): (-2 - 2 - 2 + 3) / 4", x.correction(2), -1);
        check.due("correction(3): 2 / 4", x.correction(3), 0);
    }

    private static void linksOfNoTwoNodes(Check check) {
        check.sentence("Promise 3", "false if j and i are not two different nodes");
        for (int n = 4; n <= 7; n++) {
            VotedFrames x = new VotedFrames(n, 0, 10);
            for (int i : Doc.outside(n)) {
                check.no("link from no node " + i, x.link(i, 0, 0, 0));
                check.no("link to no node " + i, x.link(1, i, 0, 0));
                check.no("link of no node " + i, x.link(i, i, 0, 0));
            }
            for (int i = 0; i < n; i++) {
                check.no("link from " + i + " to itself", x.link(i, i, 0, 0));
                check.yes("link from " + i + " to the next", x.link(i, (i + 1) % n, 0, 0));
            }
        }
    }

    private static void wrongLinkNumbers(Check check) {
        check.sentence("Promise 3", "or a number is not as said.");
        VotedFrames x = Doc.sensing(4, 0, 1);
        x.link(1, 0, 20, 3);
        x.link(2, 0, 0, 3);
        for (int delay : new int[] {-1, 21, Doc.MIN, Doc.MAX}) {
            check.no("link(1, 0, " + delay + ", 0)", x.link(1, 0, delay, 0));
            check.no("link(2, 0, " + delay + ", 0)", x.link(2, 0, delay, 0));
        }
        for (int error : new int[] {-4, 4, Doc.MIN, Doc.MAX}) {
            check.no("link(1, 0, 0, " + error + ")", x.link(1, 0, 0, error));
            check.no("link(2, 0, 20, " + error + ")", x.link(2, 0, 20, error));
        }
        x.clock(0, 2, 0);
        x.run(1);
        check.due("input(0, 1): still 2 + 20", x.input(0, 1), 0);
        check.due("input(0, 2): still 2 + 0", x.input(0, 2), 300);
        check.due("correction(0): (-2 + 3 - 2 + 3 - 2) / 4", x.correction(0), 0);
        x.clock(0, -1, 0);
        for (int i = 1; i < 4; i++) {
            x.clock(i, 0, 0);
        }
        x.run(1);
        check.due("correction(0): (1 + 3 + 1 + 3 + 1) / 4", x.correction(0), 2);
    }

    private static void sensorBounds(Check check) {
        check.sentence("Promise 4", "The sensor of node i becomes v");
        VotedFrames x = new VotedFrames(4, 1, 10);
        check.yes("sensor(0, MIN)", x.sensor(0, Doc.MIN));
        check.yes("sensor(1, MAX)", x.sensor(1, Doc.MAX));
        check.yes("sensor(3, -7)", x.sensor(3, -7));
        check.due("input(2, 0) before a frame", x.input(2, 0), 0);
        x.run(1);
        for (int i = 0; i < 4; i++) {
            check.due("input(" + i + ", 0)", x.input(i, 0), Doc.MIN);
            check.due("input(" + i + ", 1)", x.input(i, 1), Doc.MAX);
            check.due("input(" + i + ", 2)", x.input(i, 2), 0);
            check.due("input(" + i + ", 3)", x.input(i, 3), -7);
        }
        x.sensor(3, 8);
        check.due("input(0, 3) is of the latest frame", x.input(0, 3), -7);
        x.run(1);
        check.due("input(0, 3)", x.input(0, 3), 8);
    }

    private static void wrongSensors(Check check) {
        check.sentence("Promise 4", "false if there is no such node.");
        for (int n = 4; n <= 7; n++) {
            VotedFrames x = Doc.sensing(n, 1, 10);
            for (int i : Doc.outside(n)) {
                check.no("sensor of no node " + i, x.sensor(i, 1));
            }
            x.run(1);
            for (int s = 0; s < n; s++) {
                check.due("input(0, " + s + ") is as before", x.input(0, s), 100 * (s + 1));
            }
        }
    }

    private static void faultBounds(Check check) {
        check.sentence("Promise 5",
            "The kind of node i becomes kind (0 .. 5) with the number x (-5000 .. 5000, whatever the kind)");
        int[][] want = {
            // what node 1, of an odd number, gets for 7 from -5000 and from 5000, in frame 1
            {7, 7}, {0, 0}, {-5000, 5000}, {-4993, 5007}, {-9993, 10007}, {-5000, 5000},
        };
        for (int kind = 0; kind <= 5; kind++) {
            for (int k = 0; k < 2; k++) {
                int number = k == 0 ? -5000 : 5000;
                VotedFrames x = new VotedFrames(7, 0, 10);
                x.run(1);
                x.sensor(6, 7);
                check.yes("fault(6, " + kind + ", " + number + ")", x.fault(6, kind, number));
                x.run(1);
                check.due("input(1, 6) of kind " + kind + " with " + number,
                    x.input(1, 6), want[kind][k]);
                check.yes("fault(6, 0, " + number + ")", x.fault(6, Doc.CORRECT, number));
                x.run(1);
                check.due("input(6, 6)", x.input(6, 6), 7);
            }
        }
    }

    private static void wrongFaults(Check check) {
        check.sentence("Promise 5", "false if there is no such node or a number is not as said.");
        for (int n = 4; n <= 7; n++) {
            for (int i : Doc.outside(n)) {
                check.no("fault of no node " + i, new VotedFrames(n, 1, 10).fault(i, 0, 0));
            }
        }
        VotedFrames x = new VotedFrames(4, 1, 10);
        x.fault(2, Doc.FIXED, 9);
        for (int kind : new int[] {-1, 6, Doc.MIN, Doc.MAX}) {
            check.no("fault(2, " + kind + ", 0)", x.fault(2, kind, 0));
        }
        for (int number : new int[] {-5001, 5001, Doc.MIN, Doc.MAX}) {
            for (int kind = 0; kind <= 5; kind++) {
                check.no("fault(2, " + kind + ", " + number + ")", x.fault(2, kind, number));
            }
        }
        x.run(1);
        check.due("input(0, 2) is as before", x.input(0, 2), 9);
    }
}
