import java.security.GeneralSecurityException;
import java.util.Arrays;
import java.util.zip.CRC32;
import javax.crypto.Cipher;
import javax.crypto.Mac;
import javax.crypto.spec.SecretKeySpec;

/** Sums, keys and seals by the Java library, so that the class is not tested against itself. */
final class Reference {
    private Reference() {
    }

    static byte[] bytes(int... values) {
        byte[] row = new byte[values.length];
        for (int i = 0; i < values.length; i++) {
            row[i] = (byte) values[i];
        }
        return row;
    }

    static byte[] join(byte[]... rows) {
        int length = 0;
        for (byte[] row : rows) {
            length += row.length;
        }
        byte[] all = new byte[length];
        int at = 0;
        for (byte[] row : rows) {
            System.arraycopy(row, 0, all, at, row.length);
            at += row.length;
        }
        return all;
    }

    static byte[] longs(long... values) {
        byte[] row = new byte[8 * values.length];
        for (int i = 0; i < row.length; i++) {
            row[i] = (byte) (values[i / 8] >>> (56 - 8 * (i % 8)));
        }
        return row;
    }

    static byte[] address(int node) {
        return bytes(2, 0, 0, 0, 0, node);
    }

    static byte[] withFcs(byte[] frame) {
        CRC32 crc = new CRC32();
        crc.update(frame);
        long sum = crc.getValue();
        return join(frame, bytes((int) sum, (int) (sum >> 8), (int) (sum >> 16), (int) (sum >> 24)));
    }

    static byte[] hmac(byte[] key, byte[] text) {
        try {
            Mac mac = Mac.getInstance("HmacSHA1");
            mac.init(new SecretKeySpec(key, "HmacSHA1"));
            return mac.doFinal(text);
        } catch (GeneralSecurityException e) {
            throw new IllegalStateException(e);
        }
    }

    static byte[] ptk(byte[] secret, int station, byte[] apNonce, byte[] stationNonce) {
        byte[] label = new byte[22];
        for (int i = 0; i < 22; i++) {
            label[i] = (byte) "Pairwise key expansion".charAt(i);
        }
        byte[] all = new byte[0];
        for (int i = 0; i < 3; i++) {
            all = join(all, hmac(secret,
                    join(label, bytes(0), address(0), address(station), apNonce, stationNonce, bytes(i))));
        }
        return Arrays.copyOf(all, 48);
    }

    static byte[] kck(byte[] ptk) {
        return Arrays.copyOfRange(ptk, 0, 16);
    }

    static byte[] tk(byte[] ptk) {
        return Arrays.copyOfRange(ptk, 32, 48);
    }

    static byte[] mic(byte[] ptk, byte[] hand) {
        return Arrays.copyOf(hmac(kck(ptk), hand), 16);
    }

    private static byte[] aes(byte[] key, byte[] block) {
        try {
            Cipher cipher = Cipher.getInstance("AES/ECB/NoPadding");
            cipher.init(Cipher.ENCRYPT_MODE, new SecretKeySpec(key, "AES"));
            return cipher.doFinal(block);
        } catch (GeneralSecurityException e) {
            throw new IllegalStateException(e);
        }
    }

    private static byte[] padded(byte[] row) {
        return Arrays.copyOf(row, (row.length + 15) / 16 * 16);
    }

    private static byte[] xor(byte[] a, byte[] b, int length) {
        byte[] row = new byte[length];
        for (int i = 0; i < length; i++) {
            row[i] = (byte) (a[i] ^ b[i]);
        }
        return row;
    }

    private static byte[] stream(byte[] key, byte[] nonce, int number) {
        return aes(key, join(bytes(1), nonce, bytes(number >> 8, number)));
    }

    private static byte[] crypt(byte[] key, byte[] nonce, byte[] text) {
        byte[] out = new byte[0];
        for (int at = 0; at < text.length; at += 16) {
            byte[] piece = Arrays.copyOfRange(text, at, Math.min(at + 16, text.length));
            out = join(out, xor(piece, stream(key, nonce, at / 16 + 1), piece.length));
        }
        return out;
    }

    private static byte[] ccmMic(byte[] key, byte[] nonce, byte[] additional, byte[] text) {
        byte[] all = join(bytes(0x59), nonce, bytes(text.length >> 8, text.length),
                padded(join(bytes(additional.length >> 8, additional.length), additional)), padded(text));
        byte[] sum = new byte[16];
        for (int at = 0; at < all.length; at += 16) {
            sum = aes(key, xor(sum, Arrays.copyOfRange(all, at, at + 16), 16));
        }
        return xor(sum, stream(key, nonce, 0), 8);
    }

    /** RFC 3610 with M 8, L 2 and additional data: the sealed text and its MIC. */
    static byte[] ccmSeal(byte[] key, byte[] nonce, byte[] additional, byte[] text) {
        return join(crypt(key, nonce, text), ccmMic(key, nonce, additional, text));
    }

    /** The text, or null if the MIC is wrong. */
    static byte[] ccmOpen(byte[] key, byte[] nonce, byte[] additional, byte[] sealed) {
        byte[] text = crypt(key, nonce, Arrays.copyOf(sealed, sealed.length - 8));
        byte[] mic = Arrays.copyOfRange(sealed, sealed.length - 8, sealed.length);
        return Arrays.equals(mic, ccmMic(key, nonce, additional, text)) ? text : null;
    }

    private static byte[] additional(byte[] header) {
        byte[] row = join(Arrays.copyOf(header, 2), Arrays.copyOfRange(header, 4, 22), bytes(header[22] & 15, 0));
        row[1] &= (byte) ~8;
        return row;
    }

    private static byte[] sealNonce(byte[] header, long pn) {
        return join(bytes(0), Arrays.copyOfRange(header, 10, 16), bytes((int) (pn >> 40), (int) (pn >> 32),
                (int) (pn >> 24), (int) (pn >> 16), (int) (pn >> 8), (int) pn));
    }

    /** A whole sealed FRAME, with its FCS, by its first 24 bytes. */
    static byte[] sealedFrame(byte[] header, long pn, byte[] key, byte[] part) {
        byte[] seal = bytes((int) pn, (int) (pn >> 8), 0, 32, (int) (pn >> 16), (int) (pn >> 24), (int) (pn >> 32),
                (int) (pn >> 40));
        return withFcs(join(header, seal, ccmSeal(key, sealNonce(header, pn), additional(header), part)));
    }

    static long pn(byte[] frame) {
        long number = 0;
        for (int at : new int[] {31, 30, 29, 28, 25, 24}) {
            number = 256 * number + (frame[at] & 255);
        }
        return number;
    }

    /** The part of a sealed FRAME, or null if its MIC is wrong. */
    static byte[] openFrame(byte[] frame, byte[] key) {
        byte[] header = Arrays.copyOf(frame, 24);
        byte[] sealed = Arrays.copyOfRange(frame, 32, frame.length - 4);
        return ccmOpen(key, sealNonce(header, pn(frame)), additional(header), sealed);
    }

    static byte[] header(int kind, int flags, int first, int second, int third, int sc) {
        return join(bytes(kind, flags, 0, 0), address(first), address(second), address(third), bytes(sc, sc >> 8));
    }
}
