/** Counts answers that are not due, prints them, and ends a test with exit code 1 if there was one. */
final class Check {
    private final String name;
    private int asked;
    private int wrong;
    private String part = "";

    Check(String name) {
        this.name = name;
    }

    void part(String words) {
        part = words;
    }

    void due(String call, long got, long want) {
        asked++;
        if (got != want) {
            wrong++;
            if (wrong <= 60) {
                System.out.println(name + ", " + part + ": " + call + " answered " + got + ", due is " + want);
            }
        }
    }

    void isTrue(String claim, boolean holds) {
        due(claim, holds ? 1 : 0, 1);
    }

    int wrongSoFar() {
        return wrong;
    }

    void end() {
        System.out.println(name + ": " + asked + " answers asked, " + wrong + " not as due");
        if (wrong != 0) {
            System.exit(1);
        }
    }
}
