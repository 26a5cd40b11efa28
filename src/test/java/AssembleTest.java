/** Promise 4: assemble, with terms 1 and 3. */
public final class AssembleTest {
    private static final String OTHER = "width 8; set r 2; set r1 6; set a 6; set abcdefghij 6;"
            + "op s1 x:s 6 = 00 x; op u1 x:u 6 = 01 x; op p1 x:p 6 = 10 x; op r x:r = 110000 x;"
            + "op big x:p 2, y:p 2 = 1110 x y; op q = 11110000;";

    public static void main(String[] args) {
        stateAfterIt();
        ordinary();
        textEndsAtItsEnd();
        numbers();
        registers();
        labels();
        labelsAreLookedAtLast();
        plainWords();
        wrongTokens();
        limits();
        Bench.end();
    }

    private static void stateAfterIt() {
        Bench bench = Bench.usual();
        Bench.due("2", bench.assemble("a: b: nop; nop;"), "assemble");
        bench.feed("nop;");
        Bench.due(Bench.BOUNDS, Bench.told(() -> bench.forge.assemble(-1)), "assemble(-1)");
        Bench.due(Bench.BOUNDS, Bench.told(() -> bench.forge.assemble(21)), "assemble(21)");
        Bench.due("20", bench.count(5), "count(5) after assemble(21)");
        Bench.due("2", bench.count(3), "count(3) after assemble(21)");
        Bench.due("2", bench.count(4), "count(4) after assemble(21)");
        Bench.due("1", Bench.told(() -> bench.forge.assemble(4)), "assemble(4)");
        Bench.due("0", bench.count(5), "count(5) after assemble(4)");
        Bench.due("0", bench.count(4), "count(4) after assemble(4)");
        Bench.due(Bench.ARGUMENT, bench.assemble("c: nop; d"), "assemble, wrong");
        Bench.due("0", bench.count(5), "count(5) after assemble, wrong");
        Bench.due("0", bench.count(3), "count(3) after assemble, wrong");
        Bench.due("0", bench.count(4), "count(4) after assemble, wrong");
        Bench.due("4", bench.count(2), "count(2) after assemble, wrong");
        Bench.due(Bench.BOUNDS, bench.word(0), "word(0) after assemble, wrong");

        Bench bare = new Bench();
        bare.feed("nop;");
        Bench.due(Bench.STATE, Bench.told(() -> bare.forge.assemble(4)), "assemble, no description");
        Bench.due("20", bare.count(5), "count(5) after assemble, no description");
        Bench.due(Bench.BOUNDS, Bench.told(() -> bare.forge.assemble(21)), "assemble(21), no description");
    }

    private static void ordinary() {
        Bench.usual().dueWords("4792 16227 64542 64543 0 65535 12039",
                "top: add r1, r2, r7;\nli r3, -5; end: jmp top; jmp end; nop; word 0xffff; li r0, 0x7f;");
        Bench.usual().dueWords("", "");
        Bench.usual().dueWords("", " \n ");
        Bench.usual().dueWords("0 0", "nop;nop\n;");
        Bench.of("width 32; op a x:s 32 = x;").dueWords("-2147483648 2147483647 -1",
                "a -2147483648; a 0x7fffffff; word 0xffffffff;");
    }

    private static void textEndsAtItsEnd() {
        Bench bench = Bench.of(OTHER);
        String text = "u1 0xf; word 12;";
        String[] wrongs = {"-1", "0", "2", "3", "4", "4", "6"};
        for (int n = 0; n < wrongs.length; n++) {
            int cut = n;
            bench.feed(text);
            Bench.told(() -> bench.forge.assemble(cut));
            Bench.due(wrongs[n], bench.wrong(), "wrong() after assemble(" + n + ") of " + text);
        }
        bench.feed(text);
        Bench.due("1", Bench.told(() -> bench.forge.assemble(7)), "assemble(7) of " + text);
        Bench.due("1", Bench.told(() -> bench.forge.count(3)), "count(3) after assemble(7) of " + text);
    }

    private static void numbers() {
        Bench bench = Bench.of(OTHER);
        bench.dueWords("32 31 0 0 63", "s1 -32; s1 31; s1 -0; s1 -0x0; s1 - \n1;");
        bench.dueWords("64 127 64 127 64", "u1 0; u1 63; u1 -0; u1 0x3f; u1 0000000000;");
        bench.dueWords("160 159", "p1 -32; p1 0x1f;");
        bench.dueWrongProgram(3, "s1 32;");
        bench.dueWrongProgram(3, "s1 -33;");
        bench.dueWrongProgram(3, "s1 0x20;");
        bench.dueWrongProgram(3, "s1 - 0x21;");
        bench.dueWrongProgram(3, "u1 64;");
        bench.dueWrongProgram(3, "u1 -1;");
        bench.dueWrongProgram(3, "p1 32;");
        bench.dueWrongProgram(3, "p1 9999999999;");
        bench.dueWrongProgram(3, "u1 00000000001;");
        bench.dueWrongProgram(4, "u1 -00000000001;");
        bench.dueWrongProgram(4, "s1 -00000000001;");
        bench.dueWrongProgram(4, "p1 -" + "0".repeat(40) + ";");
        bench.dueWrongProgram(4, "s1 -;");
        bench.dueWrongProgram(4, "s1 --1;");
        bench.dueWrongProgram(4, "p1 -a; a:");
        bench.dueWrongProgram(3, "s1 a; a:");
        bench.dueWrongProgram(3, "u1 r1; r1:");
        bench.dueWrongProgram(4, "u1 0X1;");
        bench.dueWrongProgram(6, "u1 0x1F;");
        bench.dueWrongProgram(13, "u1 0x000000011;");
        bench.dueWrongProgram(4, "u1 0x;");
    }

    private static void registers() {
        Bench bench = Bench.of(OTHER);
        bench.dueWords("192 195", "r r0; r r3;");
        bench.dueWrongProgram(2, "r r4;");
        bench.dueWrongProgram(2, "r r00;");
        bench.dueWrongProgram(2, "r r03;");
        bench.dueWrongProgram(2, "r r;");
        bench.dueWrongProgram(2, "r R1;");
        bench.dueWrongProgram(2, "r r1_;");
        bench.dueWrongProgram(2, "r rx;");
        bench.dueWrongProgram(2, "r r11;");
        bench.dueWrongProgram(2, "r a1;");
        bench.dueWrongProgram(2, "r 1;");
        bench.dueWrongProgram(2, "r -r1;");
        bench.dueWrongProgram(2, "r -1;");
        bench.dueWrongProgram(2, "r u;");
        bench.dueWrongProgram(2, "r ;");
        bench.dueWrongProgram(5, "r r1 1;");
        Bench large = Bench.of("width 8; set r1 6; set abcdefghij 6; op a x:r1 = 00 x; op b x:abcdefghij = 01 x;");
        large.dueWords("0 9 10 63 127", "a r10; a r19; a r110; a r163; b abcdefghij63;");
        large.dueWrongProgram(2, "a r164;");
        large.dueWrongProgram(2, "a r1;");
        large.dueWrongProgram(2, "a r100;");
        large.dueWrongProgram(2, "b abcdefghi63;");
        large.dueWrongProgram(14, "b abcdefghij630;");
    }

    private static void labels() {
        Bench bench = Bench.of(OTHER);
        bench.dueWords("129 128 191 190", "p1 a; a: p1 a; p1 a; p1 a; b:");
        bench.dueWords("129", "p1 end; end:");
        bench.dueWords("231 236", "big a, -1; a: big -1, a;");
        bench.dueWords("224 229", "a: big a, a; b: big c, c; c:");
        bench.dueWords("128", "a:b:c:p1 b;");
        // A label may have the name of an op, of a set or of a register.
        bench.dueWords("240 191 192 189", "q: q; p1 q; r: r1: r r0; p1 q;");
        bench.dueWrongProgram(3, "a: a: q;");
        bench.dueWrongProgram(6, "a: q; a: q;");
        bench.dueWrongProgram(0, "u: q;");
        bench.dueWrongProgram(0, ": q;");
        bench.dueWrongProgram(0, "5: q;");
        bench.dueWrongProgram(3, "p1 u; q;");
        bench.dueWrongProgram(0, "abcdefghijklm: q;");
    }

    private static void labelsAreLookedAtLast() {
        Bench bench = Bench.of(OTHER);
        bench.dueWrongProgram(3, "p1 a; p1 b; q;");
        bench.dueWrongProgram(9, "p1 a; p1 b; a: q;");
        bench.dueWrongProgram(11, "p1 a; q; q q;");
        bench.dueWrongProgram(12, "p1 a; a: q; a: q;");
        // Two bits are -2 to 1: the label is one word too far forwards, or backwards.
        bench.dueWords("228 240", "big a, 0; a: q;");
        bench.dueWrongProgram(4, "big a, 0; q; a: q;");
        bench.dueWords("240 240 232", "a: q; q; big a, 0;");
        bench.dueWrongProgram(19, "a: q; q; q; big 0, a;");
        // In their order: the one too far stands before the one that is not there.
        bench.dueWrongProgram(4, "big a, b; q; a: q;");
        bench.dueWrongProgram(7, "big 0, b; p1 c; q;");
    }

    private static void plainWords() {
        Bench bench = Bench.of(OTHER);
        bench.dueWords("0 255 255 0", "word 0; word 255; word 0xff; word -0;");
        bench.dueWrongProgram(5, "word 256;");
        bench.dueWrongProgram(5, "word -1;");
        bench.dueWrongProgram(6, "word -00000000001;");
        bench.dueWrongProgram(5, "word 00000000001;");
        bench.dueWrongProgram(8, "a: word a;");
        bench.dueWrongProgram(4, "word: q;");
        bench.dueWrongProgram(5, "word ;");
        bench.dueWrongProgram(6, "word 5");
        bench.dueWrongProgram(6, "word 5, 5;");
        Bench wide = Bench.of("width 32;");
        wide.dueWords("-1 -2147483648", "word 4294967295; word 0x80000000;");
        wide.dueWrongProgram(5, "word 4294967296;");
    }

    private static void wrongTokens() {
        Bench bench = Bench.usual();
        bench.dueWrongProgram(10, "add r1, r2;");
        bench.dueWrongProgram(14, "add r1, r2, r3, r4;");
        bench.dueWrongProgram(4, "nop r1;");
        bench.dueWrongProgram(4, "nop $;");
        bench.dueWrongProgram(3, "nop");
        bench.dueWrongProgram(5, "nop  ");
        bench.dueWrongProgram(0, "nap");
        bench.dueWrongProgram(0, "nap;");
        bench.dueWrongProgram(0, "nap $");
        bench.dueWrongProgram(0, "NOP;");
        bench.dueWrongProgram(0, "set r 3;");
        bench.dueWrongProgram(0, "r1;");
        bench.dueWrongProgram(5, "nop; ;");
        bench.dueWrongProgram(7, "li r1, 999 $;");
        bench.dueWrongProgram(11, "li r1, 999 \t;");
        bench.dueWrongProgram(0, "\u0000");
        bench.dueWrongProgram(7, "add r1 r2 r3;");
    }

    private static void limits() {
        Bench bench = Bench.of("width 8; op a = 00000001;");
        String full = "a;".repeat(999) + "word 7;";
        Bench.due("1000", bench.assemble(full), "1,000 words");
        Bench.due("7", bench.word(999), "word(999)");
        bench.dueWrongProgram(full.length(), full + "a;");
        Bench again = Bench.of("width 8; op a = 00000001;");
        again.dueWrongProgram(full.length(), full + "word 8;");
        Bench third = Bench.of("width 8; op a = 00000001;");
        Bench.due("1000", third.assemble(full + "a:"), "1,000 words and a label behind them");

        StringBuilder labels = new StringBuilder();
        for (int i = 0; i < 60; i++) {
            labels.append('l').append(i).append(':');
        }
        Bench fourth = Bench.of("width 8; op a = 00000001;");
        fourth.dueWords("1", labels + "a;");
        Bench.due("60", fourth.count(4), "count(4) of 60 labels");
        fourth.dueWrongProgram(labels.length() + 1, labels + " m: a;");
        fourth.dueWrongProgram(labels.length() + 1, labels + " l0: a;");

        Bench many = Bench.of("width 8; op a b:p 1,c:p 1,d:p 1,e:p 1,f:p 1,g:p 1 = 00 b c d e f g;");
        String six = "a x,x,x,x,x,x;";
        Bench.due("1", many.assemble("x:" + six), "six labels in V");
        String most = six.repeat(285);
        many.dueWrongProgram(2, most);
        Bench.due("2", many.assemble("x:" + six + "y:" + "a y,y,y,y,y,y;"), "labels in V of the next program");
    }
}
