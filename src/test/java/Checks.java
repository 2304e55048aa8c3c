/** Counts and prints the calls whose answer is not the one that is due. */
final class Checks {
    private final String name;
    private int made, wrong;

    Checks(String name) {
        this.name = name;
    }

    void due(String call, long got, long want) {
        made++;
        if (got == want) return;
        wrong++;
        if (wrong <= 40) System.out.println(name + ": " + call + " answered " + got + ", due is " + want);
    }

    int made() {
        return made;
    }

    void end() {
        System.out.println(name + ": " + made + " answers looked at, " + wrong + " not as due");
        if (wrong != 0) System.exit(1);
    }

    /** Feeds a text and reads it into a register. */
    static int read(QuaternionNet net, String text, int r) {
        for (char letter : text.toCharArray()) net.feed(letter);
        return net.read(r);
    }
}
