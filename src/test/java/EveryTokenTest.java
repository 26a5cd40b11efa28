/**
 * Terms 1 to 3: "WRONG is the first TOKEN that can not stand where it is". In right texts a TOKEN of each sort is put for each
 * TOKEN, and before each; the answers must be those of the model.
 */
public final class EveryTokenTest {
    private static final String[] TOKENS = {"a", "x", "r", "r1", "zz", "abcdefghijk", "width", "set", "op", "word", "u", "s", "p",
        "0", "1", "2", "8", "00000000", "12345", "12345678901", "0x0", "0x1", "0x8", "0xffffffff", "=", ";", ",", ":", "[", "]", "-",
        "?", ""};

    private static final String[] DESCRIPTIONS = {
        "width 8;",
        "width 16; set r 3; op a = 0000000000000000; op b x:r, y:u 4 = 1 x y[3:0] 00000000;",
        "width 8; op a x:s 2, y:p 2 = x[1:1] 0 y 0 x[0:0] 11; set r 1; op b = 01000000;"};

    private static final String DESCRIPTION = "width 16; set r 3; set q 1; op n = 0000000000000000;"
            + "op a x:r, y:q, z:p 4 = 1 x y z 0000000; op r x:u 8, y:s 6 = 01 x y;";

    private static final String[] PROGRAMS = {
        "n;",
        "word 0x1f;",
        "x: n; a r7, q0, x; r 255, -32; word 65535; y: a r0, q1, -8; r: r 0xff, - 0x20; n;"};

    public static void main(String[] args) {
        for (String text : DESCRIPTIONS) {
            dueAll(text, false);
        }
        for (String text : PROGRAMS) {
            dueAll(text, true);
        }
        Bench.end();
    }

    private static void dueAll(String text, boolean isProgram) {
        Parts parts = new Parts(text);
        dueAsModel(text, isProgram);
        for (int i = 0; i < parts.size(); i++) {
            String before = text.substring(0, parts.start(i));
            for (String token : TOKENS) {
                dueAsModel(before + token + " " + text.substring(parts.end(i)), isProgram);
                dueAsModel(before + token + " " + text.substring(parts.start(i)), isProgram);
            }
        }
        for (String token : TOKENS) {
            dueAsModel(text + token, isProgram);
        }
    }

    private static void dueAsModel(String text, boolean isProgram) {
        Bench bench = new Bench();
        Model model = new Model();
        if (isProgram) {
            bench.describe(DESCRIPTION);
            model.describe(DESCRIPTION);
            Bench.due(model.assemble(text), bench.assemble(text), text);
        } else {
            Bench.due(model.describe(text), bench.describe(text), text);
        }
        Bench.due(model.wrong(), bench.wrong(), "wrong() after " + text);
    }
}
