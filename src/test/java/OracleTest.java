/** Many made-up texts, each run by DecimalRun and by the oracle, with everything compared. */
public final class OracleTest {
    private static final int OBJECTS = 20_000;
    private static final int RUNS_EACH = 5;
    private static final int TEXT_LIMIT = 200;

    public static void main(String[] args) {
        Texts texts = new Texts(20_261_115L);
        Compared compared = new Compared();
        for (int i = 0; i < OBJECTS; i++) {
            compared.anew();
            for (int run = 0; run < RUNS_EACH; run++) {
                String text = texts.text(TEXT_LIMIT);
                compared.run(text, texts.oneIn(3) ? texts.below(40) - 2 : Session.PLENTY);
            }
        }
        compared.end(0, 1, 2, 3, 4, 5, 6, 7, 8);
    }
}
