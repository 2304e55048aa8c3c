/** The program that README.md shows. */
public final class Example {
    private static void show(String call, long answer) {
        System.out.println(call + " is " + answer);
    }

    private static int read(QuaternionNet net, int r, String text) {
        for (char letter : text.toCharArray()) net.feed(letter);
        return net.read(r);
    }

    public static void main(String[] args) {
        QuaternionNet net = new QuaternionNet(); // p 5, q 3, PLACE 0
        show("count(3), how many NODES,", net.count(3));
        show("prime(13), what p was,", net.prime(13));
        show("modulus(7), what q was,", net.modulus(7));
        show("count(3)", net.count(3));
        show("ring()", net.ring());
        show("walks(12, 1)", net.walks(12, 1));

        net.put(0, 1, 2, 3, 4); // register 0
        show("norm(0)", net.norm(0));
        show("read(1) of ~r0*(g1+[1,0,0,-2])", read(net, 1, "~r0*(g1+[1,0,0,-2])"));
        show("part(1, 0)", net.part(1, 0));

        net.row(0, 2); // row 0: two places, both 0
        net.set(0, 1, 5);
        show("ends(0)", net.ends(0));
        show("film(1, 335), how many STEPS,", net.film(1, 335));

        // refusals
        show("walk(14), BAD,", net.walk(14));
        show("read(1) of (r0+g14), NOT,", read(net, 1, "(r0+g14)"));
        show("why(1, 0), its sort,", net.why(1, 0));
        show("why(1, 1), its number,", net.why(1, 1));
        show("read(1) of (r0+r7), a FAULT at 5,", read(net, 1, "(r0+r7)"));
        if (net.part(6, 0) == QuaternionNet.VOID) System.out.println("there is no register 6");
    }
}
