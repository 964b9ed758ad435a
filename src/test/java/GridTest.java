import java.math.BigDecimal;
import java.util.ArrayList;
import java.util.List;

/** Every operation on every two of many numbers at the edges, compared with the oracle. */
public final class GridTest {
    private static final int[] EDGES = {0, 1, 3, 9, 10, 9999, 10001, 31622, 31623, 333333333, 500000000, 999999999};
    private static final String[] EXPONENTS = {
        "0", "1", "2", "3", "4", "8", "9", "29", "30", "98", "99", "100", "0.5", "2.0", "99.0", "99.0001", "3.0000"
    };
    private static final int FUEL = 9;

    public static void main(String[] args) {
        Compared compared = new Compared();
        List<String> numbers = numbers();
        for (String a : numbers) {
            compared.anew();
            for (String b : numbers) {
                compared.run("x=" + a + ";y=" + b + ";x+y", FUEL);
                compared.run("x-y", FUEL);
                compared.run("x%y", FUEL);
                compared.run("if(x<y)1;if(x>y)2;if(x<=y)3;if(x>=y)4", FUEL);
                compared.run("if(x==y)5;if(x!=y)6", FUEL);
                for (int scale = 0; scale <= 4; scale++) {
                    compared.run("scale=" + scale + ";x*y", FUEL);
                    compared.run("x/y", FUEL);
                }
            }
            powers(compared);
        }
        compared.end(0, 2, 3, 5);
    }

    private static void powers(Compared compared) {
        for (String exponent : EXPONENTS) {
            for (int scale = 0; scale <= 4; scale++) {
                compared.run("scale=" + scale + ";x^" + exponent, FUEL);
                compared.run("x^-" + exponent, FUEL);
            }
        }
    }

    private static List<String> numbers() {
        List<String> numbers = new ArrayList<>();
        for (int edge : EDGES) {
            for (int decimals = 0; decimals <= 4; decimals++) {
                String number = BigDecimal.valueOf(edge, decimals).toPlainString();
                numbers.add(number);
                numbers.add("-" + number);
            }
        }
        return numbers;
    }
}
