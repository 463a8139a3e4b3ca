/** States that tests begin with. */
public final class States {
    private States() {
    }

    /**
     * On DAY 35: two texts of each sort, 3 PARTS (the last one of DAY 33), 4 READINGS (the last one of DAY 34), 3 LOOKS
     * (LOOK 1 DONE on DAY 32), a CLEANING, 3 HOUSES, 3 PRINTS, 2 FORETOLD ones, 2 LETTERS, and y:1+2 on the TAPE.
     */
    public static Tale ordinary() {
        Tale tale = new Tale().text(0, "y:100+a*10").text(0, "y:d=3?100;y:0-20");
        tale.text(1, "y:l+a").text(1, "y:a*2").text(2, "y:n>2?t").text(2, "y:g*k");
        tale.then("part", 0, 10, 20, 15).then("part", 1, 50, 60, 70).then("house").then("house").then("house");
        tale.then("read", 3, 2, 0, 0, 1, 100).then("read", 11, 0, 5, 2, 2, 40);
        tale.then("look", 0, 12, 30, 5).then("look", 1, 55, 58, 4).then("look", 1, 0, 400, 1);
        tale.then("print", 0, false, 5, 9).then("print", 1, true, 9, 12).then("print", 1, false, -3, 0);
        tale.then("days", 30).then("read", 3, 1, 7, 0, 9, 90).then("letter", 0, 2).then("print", 2, false, -1, 4);
        tale.then("days", 2).then("done", 1).then("letter", 2, 1).then("days", 1).then("part", 0, 1, 3, 2);
        tale.then("days", 1).then("read", 4, 9, 23, 9, 40, -7).then("clean", 1, 40, 45, 44);
        return tale.then("print", 2, true, -8, 8).then("days", 1).tape("y:1+2");
    }

    /**
     * On DAY 9: 2 GUESSES that fit, 2 RULES by which it is SAID, 3 PARTS (the last one of DAY 7) of which each COULD be
     * all that is LEFT over, and 2 HOUSES that had MET sooner by a LETTER.
     */
    public static Tale honest() {
        Tale tale = new Tale().text(0, "y:100").text(1, "y:a").text(1, "y:a+l").text(2, "y:n").text(2, "y:t>3?k+1");
        tale.then("part", 0, 0, 90, 50).then("part", 0, 10, 20, 15).then("look", 0, 0, 80, 2).then("look", 1, 12, 14, 2);
        tale.then("read", 3, 0, 0, 0, 1, 60).then("house").then("house").then("print", 0, false, 1, 2);
        tale.then("print", 1, true, 2, 3).then("days", 5).then("read", 8, 1, 1, 1, 2, 65).then("done", 0);
        tale.then("days", 2).then("part", 0, 0, 5, 2).then("days", 2).then("letter", 1, 0);
        return tale.then("read", 11, 2, 2, 2, 3, 70);
    }

    /** As many texts of each sort as there may be. */
    public static Tale texts(Tale tale) {
        for (int i = 0; i < 12; i++) tale.text(0, i % 2 == 0 ? "y:100-d*" + i : "y:d<" + i + "?e*20;y:a-w*3");
        for (int i = 0; i < 6; i++) tale.text(1, "y:l*a-" + i * 9).text(2, "y:n>" + i * 15 + "?k+1");
        return tale;
    }

    /** All that may be told is told, but for one LOOK that is not DONE; the last DAY is NOW. */
    public static Tale full() {
        Tale tale = texts(new Tale());
        for (int i = 0; i < 12; i++) tale.then("part", i, i * 10, 200 + i, 300);
        for (int i = 0; i < 10; i++) tale.then("look", i, i * 20, 250 - i, 1 + i);
        tale.times(8, "house");
        for (int i = 0; i < 80; i++) {
            tale.then("read", i * 7 % 16, i % 10, i % 24, i % 7, 1 + i * 3 % 40, i * 20);
            if (i % 8 == 0 && i < 72) tale.then("done", i / 8);
            if (i % 4 == 0) tale.then("clean", i % 12, i, 3 * i, 100);
            if (i % 2 == 0) tale.then("print", i * 5 / 2 % 8, false, i, i + 1);
            if (i % 4 == 1) tale.then("print", i * 3 % 8, true, i, i);
            if (i >= 20) tale.then("letter", i % 8, (i + 1 + i % 7) % 8);
            if (i % 8 == 7) tale.then("days", 12);
        }
        return tale.tape("x".repeat(120));
    }
}
