/** All short texts over some tokens, in some surroundings, compared with the oracle. */
public final class ShortTextsTest {
    private static final String[] TOKENS = {
        "1", "x", "=", "(", ")", "{", "}", ";", "-", "^", "<", "if", "return", "define", "scale", "+", ".", " "
    };
    private static final String[] AROUND = {
        "#", "x=#", "f(#)", "if(#)1", "if(1<2)#", "while(x<1)#", "{#}", "1#2", "define f(x){#};f(2)", "define f(#){}",
        "define f(x)#", "define#", "1 #;2"
    };
    private static final int FUEL = 9;

    public static void main(String[] args) {
        Compared compared = new Compared();
        for (String around : AROUND) {
            all(compared, around, TOKENS, "", 3);
        }
        all(compared, "#", new String[] {"{", "}", "1", ";"}, "", 7);
        all(compared, "#", new String[] {"(", ")", "1", "-", "^"}, "", 6);
        all(compared, "if(#)1", new String[] {"<", ">", "=", "!", "1"}, "", 5);
        all(compared, "#", new String[] {"1", ".", "23", "4567", "+", " "}, "", 5);
        all(compared, "#", new String[] {"((", "))", "{{", "}}", "-", "1"}, "", 5);
        compared.end(0, 1, 4);
    }

    /** The text so far, and all that go on from it with at most so many tokens more. */
    private static void all(Compared compared, String around, String[] tokens, String soFar, int more) {
        compared.anew();
        compared.run(around.replace("#", soFar), FUEL);
        if (more > 0) {
            for (String token : tokens) {
                all(compared, around, tokens, soFar + token, more - 1);
            }
        }
    }
}
