import java.nio.ByteBuffer;
import java.nio.CharBuffer;
import java.nio.charset.CharsetDecoder;
import java.nio.charset.CoderResult;
import java.nio.charset.CodingErrorAction;
import java.nio.charset.StandardCharsets;

/** A right TEXT of "Terms", and promise 3, check. */
public final class TextTest {
    private static final int[] EDGES = {
        0, 47, 127, 128, 143, 144, 159, 160, 191, 192, 193, 194, 223, 224, 237, 238, 239, 240, 243,
        244, 245, 255};

    public static void main(String[] args) {
        oneOctet();
        twoOctets();
        threeOctets();
        leftOut();
        fourOctets();
        noFirstOctets();
        octetsMore();
        whichBits();
        firstPlace();
        allOctetsAreThere();
        noneIfRight();
        everyPairOfOctets();
        everyRowOfEdges();
        everyPointOnce();
        Due.end();
    }

    /** These octets are a right TEXT of this POINT alone, which folding leaves as it is. */
    private static void duePoint(int point, int... row) {
        Due.dueCheck(-1, row);
        Due.dueFolded(Due.octets(row), point);
    }

    private static void oneOctet() {
        Due.sentence("an octet 0 .. 127 is a POINT");
        duePoint(0, 0);
        duePoint(127, 127);
        Due.dueCheck(0, 128);
        Due.dueCheck(0, 255);
    }

    private static void twoOctets() {
        Due.sentence("194 .. 223 and one octet more tell one from 128 on");
        duePoint(128, 194, 128);
        duePoint(2047, 223, 191);
        Due.dueCheck(0, 193, 191);
        Due.dueCheck(0, 192, 128);
        Due.dueCheck(2, 194, 128, 128);
        Due.dueCheck(0, 224, 128);
    }

    private static void threeOctets() {
        Due.sentence("224 .. 239 and two more one from 2048 on");
        duePoint(2048, 224, 160, 128);
        duePoint(65535, 239, 191, 191);
        Due.dueCheck(0, 224, 159, 191);
        Due.dueCheck(0, 224, 128, 128);
        Due.dueCheck(3, 224, 160, 128, 128);
        Due.dueCheck(0, 240, 160, 128);
    }

    private static void leftOut() {
        Due.sentence("but 55296 .. 57343");
        duePoint(55295, 237, 159, 191);
        Due.dueCheck(0, 237, 160, 128);
        Due.dueCheck(0, 237, 175, 191);
        Due.dueCheck(0, 237, 176, 128);
        Due.dueCheck(0, 237, 191, 191);
        duePoint(57344, 238, 128, 128);
        // Two that other ways of telling texts join to one POINT.
        Due.dueCheck(1, 97, 237, 160, 189, 237, 184, 128);
    }

    private static void fourOctets() {
        Due.sentence("240 .. 244 and three more one from 65536 up to 1114111");
        duePoint(65536, 240, 144, 128, 128);
        duePoint(1114111, 244, 143, 191, 191);
        Due.dueCheck(0, 240, 143, 191, 191);
        Due.dueCheck(0, 240, 128, 128, 128);
        Due.dueCheck(0, 244, 144, 128, 128);
        Due.dueCheck(0, 244, 191, 191, 191);
        Due.dueCheck(4, 240, 144, 128, 128, 128);
    }

    private static void noFirstOctets() {
        Due.sentence("0 .. 127, 194 .. 223, 224 .. 239, 240 .. 244: no other octet is the first");
        for (int first = 128; first <= 193; first++) {
            Due.dueCheck(0, first, 128, 128, 128, 128);
        }
        for (int first = 245; first <= 255; first++) {
            Due.dueCheck(0, first, 128, 128, 128, 128, 128, 128);
        }
    }

    private static void octetsMore() {
        Due.sentence("octets more are 128 .. 191");
        int[][] rows = {{195, 160}, {225, 160, 160}, {241, 160, 160, 160}};
        for (int[] row : rows) {
            for (int place = 1; place < row.length; place++) {
                int[] other = row.clone();
                int[] edges = {0, 127, 128, 191, 192, 255};
                for (int octet : edges) {
                    other[place] = octet;
                    Due.dueCheck(octet == 128 || octet == 191 ? -1 : 0, other);
                }
            }
        }
    }

    private static void whichBits() {
        Due.sentence("the lowest six bits of each, and the lowest five, four, three of the first");
        duePoint(18 * 64 + 33, 210, 161);
        duePoint(31 * 64 + 2, 223, 130);
        duePoint(8 * 4096 + 32 * 64 + 1, 232, 160, 129);
        duePoint(15 * 4096 + 16 * 64 + 62, 239, 144, 190);
        duePoint(262144 + 32 * 4096 + 16 * 64 + 8, 241, 160, 144, 136);
        duePoint(4 * 262144 + 4096 + 2 * 64 + 4, 244, 129, 130, 132);
    }

    private static void firstPlace() {
        Due.sentence("The first place at which no POINT begins is where it is wrong");
        Due.dueCheck(0, 255, 97);
        Due.dueCheck(1, 97, 255, 97, 255);
        Due.dueCheck(2, 195, 169, 169);
        Due.dueCheck(3, 226, 130, 172, 172);
        Due.dueCheck(4, 240, 159, 152, 128, 128);
        Due.dueCheck(10, 97, 195, 169, 226, 130, 172, 240, 159, 152, 128, 255);
        // Where the POINT would begin, not where the octet is that spoils it.
        Due.dueCheck(1, 97, 195, 97);
        Due.dueCheck(1, 97, 226, 130, 97);
        Due.dueCheck(1, 97, 240, 159, 152, 97);
        Due.dueCheck(0, 195, 195, 169);
    }

    private static void allOctetsAreThere() {
        Due.sentence("(of which all octets are there)");
        Due.dueCheck(0, 195);
        Due.dueCheck(0, 226);
        Due.dueCheck(0, 226, 130);
        Due.dueCheck(0, 240);
        Due.dueCheck(0, 240, 159);
        Due.dueCheck(0, 240, 159, 152);
        Due.dueCheck(3, 97, 195, 169, 226, 130);
        byte[] row = Due.utf8("a".repeat(198) + "\u00e9");
        Due.dueCheck(-1, row);
        row[199] = (byte) 195;
        row[198] = 97;
        Due.dueCheck(199, row);
        // What was read before does not end a POINT, and what comes later is not read yet.
        FoldedNames x = new FoldedNames();
        Due.due("check() of a cut one", Due.feed(x, Due.octets(226, 130)).check(), 0);
        Due.due("check() of what lacked", Due.feed(x, Due.octets(172)).check(), 0);
        Due.feed(x, Due.octets(97, 97, 97)).check();
        Due.due("check() of a cut one before", Due.feed(x, Due.octets(240, 159)).check(), 0);
    }

    private static void noneIfRight() {
        Due.sentence("NONE if it is right");
        FoldedNames x = new FoldedNames();
        Due.due("check() of nothing", x.check(), FoldedNames.NONE);
        Due.due("check() of a text", Due.feed(x, "\u00e9/\u0000 \u20ac\ud83d\ude00").check(), -1);
        Due.due("check() of . and /", Due.feed(x, ".././/").check(), -1);
        Due.due("check() of 200 octets", Due.feed(x, "\u20ac".repeat(66) + "ab").check(), -1);
    }

    private static void everyPairOfOctets() {
        Due.sentence("every pair of octets, as the library reads it");
        for (int first = 0; first < 256; first++) {
            for (int second = 0; second < 256; second++) {
                dueAsRead(first, second);
            }
        }
    }

    private static void everyRowOfEdges() {
        Due.sentence("every row of edges, as the library reads it");
        for (int a : EDGES) {
            for (int b : EDGES) {
                for (int c : EDGES) {
                    dueAsRead(a, b, c);
                    for (int d : EDGES) {
                        dueAsRead(a, b, c, d);
                        dueAsRead(97, a, b, c, d);
                    }
                }
            }
        }
    }

    private static void everyPointOnce() {
        Due.sentence("every POINT is a right TEXT");
        for (int point = 0; point <= 1114111; point++) {
            if (point < 55296 || point > 57343) {
                Due.dueCheck(-1, Due.utf8(point));
            }
        }
    }

    private static void dueAsRead(int... values) {
        byte[] row = Due.octets(values);
        Due.dueCheck(wrongPlace(row), row);
    }

    private static int wrongPlace(byte[] row) {
        CharsetDecoder reader = StandardCharsets.UTF_8.newDecoder()
                .onMalformedInput(CodingErrorAction.REPORT)
                .onUnmappableCharacter(CodingErrorAction.REPORT);
        ByteBuffer in = ByteBuffer.wrap(row);
        CoderResult result = reader.decode(in, CharBuffer.allocate(2 * row.length), true);
        return result.isError() ? in.position() : -1;
    }
}
