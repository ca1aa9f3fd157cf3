import java.nio.ByteBuffer;
import java.nio.CharBuffer;
import java.nio.charset.CharsetDecoder;
import java.nio.charset.CoderResult;
import java.nio.charset.CodingErrorAction;
import java.nio.charset.StandardCharsets;

/** Promises 2 and 3, feed and check; right TEXTS are told by the library's own strict reader. */
public final class TextTest {
    private static final int[] EDGES = {
        0, 47, 127, 128, 143, 144, 159, 160, 191, 192, 193, 194, 223, 224, 237, 238, 239, 240, 243,
        244, 245, 255};

    public static void main(String[] args) {
        feeding();
        checking();
        everyPairOfOctets();
        everyRowOfEdges();
        everyPointOnce();
        Due.end();
    }

    private static void feeding() {
        FoldedNames x = new FoldedNames();
        Due.dueThrow("feed(0, 0)", () -> x.feed(0, 0));
        Due.dueThrow("feed(9, 0)", () -> x.feed(9, 0));
        Due.dueThrow("feed(-1, 0)", () -> x.feed(-1, 0));
        Due.dueThrow("feed(least, 0)", () -> x.feed(Integer.MIN_VALUE, 0));
        Due.dueThrow("feed(most, 0)", () -> x.feed(Integer.MAX_VALUE, 0));
        Due.due("feed(1, ..) of a new object", x.feed(1, 0x4241L), 1);
        Due.due("feed(8, ..) behind it", x.feed(8, 0x8061626364656667L), 9);
        Due.due("check() of octets fed lowest first", x.check(), 8);
        Due.due("feed(2, ..) after a read", x.feed(2, -1L), 2);
        Due.due("check() of 255", x.check(), 0);
        for (int i = 1; i <= 24; i++) {
            Due.due("feed(8, ..)", x.feed(8, 0x6161616161616161L), 8 * i);
        }
        Due.due("feed(7, ..)", x.feed(7, 0x6161616161616161L), 199);
        Due.dueThrow("feed(2, ..) to 201", () -> x.feed(2, 0x6161L));
        Due.dueThrow("feed(9, ..) when nearly full", () -> x.feed(9, 0x6161L));
        Due.due("feed(1, ..) to 200", x.feed(1, 255L), 200);
        Due.dueThrow("feed(1, ..) to 201", () -> x.feed(1, 0x61L));
        Due.due("check() of 200 octets, the last one wrong", x.check(), 199);
        Due.due("feed(1, ..) after 200 were read", x.feed(1, 0x61L), 1);
    }

    private static void checking() {
        FoldedNames x = new FoldedNames();
        Due.due("check() of nothing", x.check(), FoldedNames.NONE);
        Due.due("check() of a text", Due.feed(x, "Caf\u00e9/\u0000 \u20ac \ud83d\ude00").check(), -1);
        Due.due("check() uses it up", x.check(), -1);
        Due.due("check() of a cut one", Due.feed(x, Due.octets(97, 226, 130)).check(), 1);
        Due.due("check() of the same, ended", Due.feed(x, Due.octets(226, 130, 172)).check(), -1);
        Due.due("check() of a surrogate", Due.feed(x, Due.octets(97, 98, 237, 160, 128)).check(), 2);
        Due.due("check() of too great a point", Due.feed(x, Due.octets(244, 144, 128, 128)).check(), 0);
        Due.due("check() of one octet too many", Due.feed(x, Due.octets(195, 169, 169)).check(), 2);
        Due.due("check() of a long / ", Due.feed(x, Due.octets(192, 175)).check(), 0);
    }

    private static void everyPairOfOctets() {
        for (int first = 0; first < 256; first++) {
            for (int second = 0; second < 256; second++) {
                dueCheck(Due.octets(first, second));
            }
        }
    }

    private static void everyRowOfEdges() {
        for (int a : EDGES) {
            for (int b : EDGES) {
                for (int c : EDGES) {
                    dueCheck(Due.octets(a, b, c));
                    for (int d : EDGES) {
                        dueCheck(Due.octets(a, b, c, d));
                        dueCheck(Due.octets(97, a, b, c, d));
                    }
                }
            }
        }
    }

    private static void everyPointOnce() {
        for (int point = 0; point <= 1114111; point++) {
            if (point < 55296 || point > 57343) {
                FoldedNames x = new FoldedNames();
                byte[] row = Due.utf8(new String(Character.toChars(point)));
                Due.due("check() of " + point, Due.feed(x, row).check(), -1);
            }
        }
    }

    private static void dueCheck(byte[] row) {
        StringBuilder told = new StringBuilder("check() of");
        for (byte octet : row) {
            told.append(' ').append(octet & 255);
        }
        Due.due(told.toString(), Due.feed(new FoldedNames(), row).check(), wrongPlace(row));
    }

    private static int wrongPlace(byte[] row) {
        CharsetDecoder reader = StandardCharsets.UTF_8.newDecoder()
                .onMalformedInput(CodingErrorAction.REPORT)
                .onUnmappableCharacter(CodingErrorAction.REPORT);
        ByteBuffer in = ByteBuffer.wrap(row);
        CoderResult result = reader.decode(in, CharBuffer.allocate(2 * row.length), true);
        return result.isError() ? in.position() : -1;
    }
}
