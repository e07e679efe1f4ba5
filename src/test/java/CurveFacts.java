import java.math.BigInteger;

/** POINTS at the edges of what x and y can be. */
final class CurveFacts {
    private static final BigInteger THREE = BigInteger.valueOf(3);

    private CurveFacts() {
    }

    /** An x with x^3 = y^2 - 7: as FIELD is 7 modulo 9, a cube has a root that is a power of it. */
    static BigInteger xOfY(BigInteger y) {
        BigInteger cube = y.multiply(y).subtract(BigInteger.valueOf(7)).mod(Model.FIELD);
        BigInteger x = cube.modPow(Model.FIELD.add(BigInteger.TWO).divide(BigInteger.valueOf(9)), Model.FIELD);
        if (!x.modPow(THREE, Model.FIELD).equals(cube)) {
            throw new IllegalArgumentException("no POINT has the y " + y);
        }
        return x;
    }

    /** Not 1, and its third power is 1: times this, an x becomes that of another POINT with the same y. */
    static BigInteger thirdRootOfOne() {
        return THREE.modPow(Model.FIELD.subtract(BigInteger.ONE).divide(THREE), Model.FIELD);
    }
}
