/** Random runs of calls, always the same ones, on the program and on the model side by side. */
public final class ModelTest {
    private static final Due CHECK = new Due("ModelTest");
    private static final int RUNS = 6000;
    private static final int CALLS = 500;
    private static final int[] STRANGE = {-1, -2, 8, 9, 64, 65, 1001, 1 << 20,
        Integer.MAX_VALUE, Integer.MIN_VALUE, Integer.MIN_VALUE + 1, -64};

    private static long seed;

    private ModelTest() {
    }

    /** From 0 to n - 1. */
    private static int any(int n) {
        seed = seed * 6364136223846793005L + 1442695040888963407L;
        return (int) ((seed >>> 33) % n);
    }

    /** From least to greatest, and once in a while just beside them or far away. */
    private static int about(int least, int greatest) {
        int dice = any(60);
        if (dice == 0) {
            return least - 1;
        }
        if (dice == 1) {
            return greatest + 1;
        }
        if (dice == 2) {
            return STRANGE[any(STRANGE.length)];
        }
        return least + any(greatest - least + 1);
    }

    private static int someTicks(Model m) {
        int dice = any(20);
        if (dice == 0) {
            return about(1, 1000);
        }
        return dice < 8 ? m.rows : about(1, 2 * m.rows + 1);
    }

    private static boolean yes() {
        return any(2) == 0;
    }

    private static void same(String call, int a, int b, int c, long got, long want) {
        CHECK.due("run " + c + ": " + call + "(" + a + ", " + b + ")", got, want);
    }

    public static void main(String[] args) {
        for (int run = 0; run < RUNS && CHECK.isRight(); run++) {
            seed = run * 7919L + 1;
            oneRun(run);
        }
        CHECK.end();
    }

    private static void oneRun(int run) {
        KeyScanner x = new KeyScanner();
        Model m = new Model();
        // A run of one kind moves a few keys again and again, one of the other moves all.
        int few = 1 + any(12);
        boolean dense = run % 2 == 0;
        int shape = run % 5;
        if (shape != 0) {
            int r = 1 + any(shape == 1 ? 2 : 8);
            int c = 1 + any(shape == 2 ? 2 : 8);
            same("reset", r, c, run, x.reset(r, c), m.reset(r, c));
        }
        for (int call = 0; call < CALLS && CHECK.isRight(); call++) {
            int dice = any(100);
            if (dice < 45) {
                move(run, x, m, dense ? m.position.length : Math.min(few, m.position.length));
            } else if (dice < 60) {
                set(run, x, m);
            } else {
                ask(run, x, m);
            }
        }
    }

    private static void move(int run, KeyScanner x, Model m, int keys) {
        int dice = any(20);
        boolean down = yes();
        if (dice < 10) {
            int k = about(0, keys - 1);
            int p = about(0, 2);
            same("setKey", k, p, run, x.setKey(k, p), m.setKey(k, p));
        } else if (dice < 17) {
            int n = someTicks(m);
            same("tick", n, 0, run, x.tick(n), m.tick(n));
        } else if (dice == 17) {
            same("sustain", down ? 1 : 0, 0, run, x.sustain(down), m.sustain(down));
        } else if (dice == 18) {
            same("sostenuto", down ? 1 : 0, 0, run, x.sostenuto(down), m.sostenuto(down));
        } else if (any(4) == 0) {
            same("liftAll", 0, 0, run, x.liftAll(), m.liftAll());
        }
    }

    private static void set(int run, KeyScanner x, Model m) {
        int dice = any(60);
        boolean on = yes();
        if (dice < 8) {
            same("setDiodes", on ? 1 : 0, 0, run, x.setDiodes(on), m.setDiodes(on));
        } else if (dice < 16) {
            same("setBlocking", on ? 1 : 0, 0, run, x.setBlocking(on), m.setBlocking(on));
        } else if (dice < 24) {
            same("setLateRelease", on ? 1 : 0, 0, run, x.setLateRelease(on), m.setLateRelease(on));
        } else if (dice < 30) {
            int s = about(1, 64);
            same("setSlope", s, 0, run, x.setSlope(s), m.setSlope(s));
        } else if (dice < 40) {
            int n = about(1, 8);
            int r = about(0, 2);
            same("setVoices", n, r, run, x.setVoices(n, r), m.setVoices(n, r));
        } else if (dice < 42) {
            int r = about(1, 8);
            int c = about(1, 8);
            same("reset", r, c, run, x.reset(r, c), m.reset(r, c));
        }
    }

    private static void ask(int run, KeyScanner x, Model m) {
        int dice = any(40);
        if (dice < 12) {
            int k = about(0, m.position.length - 1);
            int w = about(0, 7);
            same("key", k, w, run, x.key(k, w), m.key(k, w));
        } else if (dice < 18) {
            int v = about(0, m.voices.length - 1);
            int w = about(0, 4);
            same("voice", v, w, run, x.voice(v, w), m.voice(v, w));
        } else if (dice < 24) {
            int w = about(0, 11);
            same("count", w, 0, run, x.count(w), m.count(w));
        } else if (dice < 28) {
            int e = about(0, 16);
            int w = about(0, 2);
            same("log", e, w, run, x.log(e, w), m.log(e, w));
        } else if (dice < 29) {
            int r = about(0, 1000);
            same("velocity", r, 0, run, x.velocity(r), m.velocity(r));
        } else if (dice < 32) {
            same("nextTaken", 0, 0, run, x.nextTaken(), m.nextTaken());
        } else if (dice < 34) {
            int r = about(0, m.rows - 1);
            same("connected", r, 0, run, x.connected(r), m.connected(r));
        } else if (dice < 36) {
            same("worstKey", 0, 0, run, x.worstKey(), m.worstKey());
        } else {
            int n = yes() ? about(1, 1000) : about(1, m.rows + 1);
            same("restAfter", n, 0, run, x.restAfter(n), m.restAfter(n));
        }
    }
}
