import java.nio.ByteBuffer;
import java.nio.charset.StandardCharsets;
import java.util.Arrays;

/** How ObjectMachine is used; README.md shows this file. */
public final class Example {
    private static final String TEXT = """
        class Main of Object {
         static main ( ) none 0 {
         a : push 100  read  div  write  goto a
         b : pop  back    ; the input is at its end, and 100 was divided by 0
          catch a b b DivideError
         }
        }
        """;

    public static void main(String[] args) {
        ObjectMachine x = new ObjectMachine();
        feedAll(x, TEXT);
        System.out.println("load " + x.load() + ", fault at " + x.faultAt());
        x.input(7);
        x.input(-3);
        System.out.println("outcome " + x.run(1000) + " at " + x.place() + " in " + x.steps() + " steps");
        for (int k = 0; k < x.written() && k < 256; k++) {
            System.out.println("out " + x.out(k));
        }
    }

    /** A feed takes twenty bytes; end() then leaves away those that fill up the last one. */
    private static void feedAll(ObjectMachine x, String text) {
        byte[] bytes = text.getBytes(StandardCharsets.ISO_8859_1);
        ByteBuffer rest = ByteBuffer.wrap(Arrays.copyOf(bytes, (bytes.length + 19) / 20 * 20));
        while (rest.hasRemaining()) {
            x.feed(rest.getInt(), rest.getInt(), rest.getInt(), rest.getInt(), rest.getInt());
        }
        x.end(bytes.length);
    }
}
