import java.math.BigInteger;

/** An exact fraction, and equations of the first degree solved by it. */
final class Ratio {
    private final BigInteger above;
    private final BigInteger below;

    private Ratio(BigInteger above, BigInteger below) {
        BigInteger d = above.gcd(below);
        if (below.signum() < 0) {
            d = d.negate();
        }
        this.above = above.divide(d);
        this.below = below.divide(d);
    }

    static Ratio of(long n) {
        return new Ratio(BigInteger.valueOf(n), BigInteger.ONE);
    }

    Ratio plus(Ratio o) {
        return new Ratio(above.multiply(o.below).add(o.above.multiply(below)), below.multiply(o.below));
    }

    Ratio less(Ratio o) {
        return new Ratio(above.multiply(o.below).subtract(o.above.multiply(below)), below.multiply(o.below));
    }

    Ratio times(Ratio o) {
        return new Ratio(above.multiply(o.above), below.multiply(o.below));
    }

    Ratio by(Ratio o) {
        return new Ratio(above.multiply(o.below), below.multiply(o.above));
    }

    Ratio size() {
        return new Ratio(above.abs(), below);
    }

    int sign() {
        return above.signum();
    }

    long above() {
        return above.longValueExact();
    }

    long below() {
        return below.longValueExact();
    }

    /** One answer to rows of factors with the sum behind them (unknowns that are free are 0); null if there is none. */
    static Ratio[] solve(Ratio[][] rows) {
        int unknowns = rows[0].length - 1;
        int[] rowOf = new int[unknowns];
        int done = 0;
        for (int c = 0; c < unknowns; c++) {
            rowOf[c] = -1;
            int pivot = done;
            while (pivot < rows.length && rows[pivot][c].sign() == 0) {
                pivot++;
            }
            if (pivot == rows.length) {
                continue;
            }
            Ratio[] row = rows[pivot];
            rows[pivot] = rows[done];
            rows[done] = row;
            for (int r = 0; r < rows.length; r++) {
                if (r != done && rows[r][c].sign() != 0) {
                    Ratio factor = rows[r][c].by(row[c]);
                    for (int k = 0; k <= unknowns; k++) {
                        rows[r][k] = rows[r][k].less(factor.times(row[k]));
                    }
                }
            }
            rowOf[c] = done++;
        }
        for (int r = done; r < rows.length; r++) {
            if (rows[r][unknowns].sign() != 0) {
                return null;
            }
        }
        Ratio[] answer = new Ratio[unknowns];
        for (int c = 0; c < unknowns; c++) {
            answer[c] = rowOf[c] < 0 ? of(0) : rows[rowOf[c]][unknowns].by(rows[rowOf[c]][c]);
        }
        return answer;
    }
}
