/** Promise 11: op. */
final class OpTest {
    private static final Document DOC = new Document("Promise 11: op");
    private static final int LEAST = Integer.MIN_VALUE;
    private static final int GREATEST = Integer.MAX_VALUE;
    private static final int[] NUMBERS = {LEAST, -1, 0, 1, 15, 16, 31, 32, 63, 64, 99, GREATEST};

    public static void main(String[] args) {
        onlyAnOpenOneDrafts();
        atTheEndOfTheDraft();
        draftsAreApart();
        codesInRange();
        operandsOf(0, "k 0 .. 63 for codes 0 and 1,", 0, 63);
        operandsOf(1, "k 0 .. 63 for codes 0 and 1,", 0, 63);
        operandsOf(6, "0 .. 31 for 6,", 0, 31);
        for (int code : new int[] {2, 3, 4, 5, 7, 8, 9, 10, 11}) {
            operandsOf(code, "any int else;", LEAST, GREATEST);
        }
        for (int code = 7; code <= 9; code++) {
            jumpsOf(code, "yes and no 0 .. 15 for codes 7 .. 9,", 0, 15);
        }
        for (int code : new int[] {0, 1, 2, 3, 4, 5, 6, 10, 11}) {
            jumpsOf(code, "else any ints and not looked at.", LEAST, GREATEST);
        }
        otherJumpsAreNotLookedAt();
        sixteenThere();
        answersItsNumber();
        DOC.end();
    }

    private static void onlyAnOpenOneDrafts() {
        Run run = DOC.run("Puts an instruction at the end of app's draft.", 4, 4).of("wrong apps");
        run.op(0, 2, 0).refused();
        run.openMap(0).ok();
        for (int app : new int[] {-1, 6, 1, LEAST, GREATEST}) {
            run.op(app, 2, 0).refused();
        }
        run.op(0, 2, 0).due(0);
        run.close(0).ok();
        run.op(0, 2, 0).refused();
    }

    private static void atTheEndOfTheDraft() {
        Run run = DOC.run("Puts an instruction at the end of app's draft.", 4, 4);
        run.openRaw(0, 0, 0).ok();
        run.op(0, 0, 1).due(0);
        run.op(0, 4, 3).due(1);
        run.op(0, 7, 8, 1, 0).due(2);
        run.op(0, 10, 0).due(3);
        run.op(0, 10, 1).due(4);
        run.count(7, 0).due(0);
        run.arrive(9, 5).refused();
        run.install(0).ok();
        run.arrive(9, 5).due(0);
        run.arrive(5, 9).refused();
    }

    private static void draftsAreApart() {
        Run run = DOC.run("Puts an instruction at the end of app's draft.", 4, 6).of("of each application");
        run.openMaps(0, 5);
        for (int round = 0; round < 3; round++) {
            for (int app = 0; app < 6; app++) {
                run.op(app, 10, app == 4 ? 1 : 0).due(round);
            }
        }
        for (int app = 0; app < 6; app++) {
            run.install(app).ok();
        }
        run.arrive().due(4);
    }

    private static void codesInRange() {
        Run run = DOC.run("code 0 .. 11;", 4, 4);
        run.openMap(0).ok();
        for (int code : new int[] {-1, 12, 13, LEAST, GREATEST}) {
            run.op(0, code, 0).refused();
        }
        for (int code = 0; code <= 11; code++) {
            run.op(0, code, 0).due(code);
        }
        run.op(0, 12, 0).refused();
        run.op(0, -1, 0).refused();
    }

    private static void operandsOf(int code, String words, int least, int greatest) {
        Run run = DOC.run(words, 4, 4).of("code " + code);
        run.openMap(0).ok();
        int number = 0;
        for (int k : NUMBERS) {
            boolean fits = k >= least && k <= greatest;
            run.op(0, code, k).due(fits ? number : BindingKernel.REFUSED);
            number += fits ? 1 : 0;
        }
    }

    private static void jumpsOf(int code, String words, int least, int greatest) {
        for (int other : new int[] {0, 15}) {
            Run run = DOC.run(words, 4, 4).of("code " + code + ", the other " + other);
            run.openMaps(0, 1);
            int number = 0;
            for (int jump : NUMBERS) {
                boolean fits = jump >= least && jump <= greatest;
                run.op(0, code, 5, jump, other).due(fits ? number : BindingKernel.REFUSED);
                run.op(1, code, 5, other, jump).due(fits ? number : BindingKernel.REFUSED);
                number += fits ? 1 : 0;
            }
        }
    }

    private static void otherJumpsAreNotLookedAt() {
        for (int jump : NUMBERS) {
            Run run = DOC.run("else any ints and not looked at.", 4, 4).of("at its end, " + jump);
            run.openMap(0).ok();
            for (int code = 0; code <= 6; code++) {
                run.op(0, code, code == 5 ? -1 : 0, jump, -jump).due(code);
            }
            run.op(0, 11, 0, jump, jump).due(7);
            run.op(0, 10, 0, jump, jump).due(8);
            run.install(0).ok();
            run.arrive(7, 7, 7).due(0);
        }
    }

    private static void sixteenThere() {
        Run run = DOC.run("16 there: FULL.", 4, 4);
        run.openMaps(0, 1);
        for (int i = 0; i < 15; i++) {
            run.op(0, 10, 0).due(i);
        }
        run.op(0, 11, 1).due(15);
        for (int code = 0; code <= 11; code++) {
            run.op(0, code, 0).full();
        }
        run.op(0, 12, 1).refused();
        run.op(0, 0, 64).refused();
        run.op(0, 6, 32).refused();
        run.op(0, 7, 0, 16, 0).refused();
        run.op(2, 10, 1).refused();
        run.op(1, 10, 1).due(0);
        run.install(0).ok();
        run.op(0, 10, 1).due(0);
    }

    private static void answersItsNumber() {
        Run run = DOC.run("Else its number.", 4, 4);
        run.openMap(3).ok();
        for (int round = 0; round < 2; round++) {
            for (int i = 0; i < 16; i++) {
                run.op(3, 10, i).due(i);
            }
            run.install(3).ok();
        }
        run.op(3, 2, 0).due(0);
        run.install(3).due(BindingKernel.BAD);
        run.op(3, 2, 0).due(0);
        run.op(3, 2, 0).due(1);
    }
}
