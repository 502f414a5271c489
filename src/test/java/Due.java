/** Compares answers with those that are due, and counts the wrong ones. */
final class Due {
    private final String name;
    private int checks = 0;
    private int wrong = 0;

    Due(String name) {
        this.name = name;
    }

    void due(String call, long got, long want) {
        checks++;
        if (got != want) {
            wrong++;
            System.out.println(name + ": " + call + " answered " + got + ", due is " + want);
        }
    }

    /** Whether two objects answer every question alike; the calls count against their 512. */
    void alike(String call, KeyScanner got, KeyScanner want) {
        String a = Snapshot.of(got);
        String b = Snapshot.of(want);
        checks++;
        if (!a.equals(b)) {
            wrong++;
            System.out.println(name + ": " + call + " left\n  " + a + "\n  due is\n  " + b);
        }
    }

    boolean isRight() {
        return wrong == 0;
    }

    void end() {
        System.out.println(name + ": " + checks + " checks, " + wrong + " wrong");
        if (wrong != 0) {
            System.exit(1);
        }
    }
}
