/** Counts the answers that are not the ones that are due, and ends a test with them. */
final class Check {
    private int wrong;
    private int asked;

    void due(String call, long got, long want) {
        asked++;
        if (got != want) {
            wrong++;
            System.out.println(call + " answered " + got + ", due is " + want);
        }
    }

    void due(String call, boolean got, boolean want) {
        due(call, got ? 1 : 0, want ? 1 : 0);
    }

    /** A new object that reads the file must tell this rule and place. */
    void broken(String what, byte[] file, int rule, int place) {
        FileRules rules = new FileRules();
        due(what + ": read()", Trays.read(rules, file), rule);
        due(what + ": place()", rules.place(), place);
    }

    void whole(String what, byte[] file) {
        broken(what, file, 0, -1);
    }

    void finish() {
        System.out.println(asked + " answers, " + wrong + " of them not as due");
        if (wrong != 0) {
            System.exit(1);
        }
    }
}
