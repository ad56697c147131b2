/** Laws told as texts: what may stand in them, where the first fault is, what each letter does at its edges. */
public final class LawTextsTest extends Checks {
    private static final String LETTERS = "ctsxpdhuol";

    public static void main(String[] args) {
        eachByteAlone();
        eachByteBehindALetter();
        eachLetterTwice();
        firstFault();
        blanks();
        whatStays();
        order();
        lettersAlone();
        tenLetters();
        bytesOfANumber();
        words();
        answers();
        sumFirst();
        passingDeadOnes();
        keys();
        likeOnes();
        end("laws are read as due");
    }

    private static int lawOf(PaidDebts x, int law, String text) {
        typed(x, text);
        return x.law(law);
    }

    private static void eachByteAlone() {
        for (int sign = 32; sign < 127; sign++) {
            PaidDebts x = new PaidDebts();
            x.type(sign, 1);
            due("10 byte " + sign, x.law(0), isLetter(sign) ? 1 : sign == ' ' ? -21 : -20);
            due("11 byte " + sign, x.letter(0, 0), isLetter(sign) ? sign : -4);
        }
    }

    private static void eachByteBehindALetter() {
        for (char letter : LETTERS.toCharArray()) {
            for (int sign = 32; sign < 127; sign++) {
                PaidDebts x = new PaidDebts();
                x.type(letter * 256 + sign, 2);
                boolean fits = isLetter(sign) && sign != letter;
                due("10 " + letter + " and byte " + sign, x.law(1), fits ? 2 : sign == ' ' ? 1 : -21);
                due("11 " + letter + " and byte " + sign, x.letter(1, 1), fits ? sign : -4);
            }
        }
    }

    private static void eachLetterTwice() {
        for (int i = 0; i < LETTERS.length(); i++) {
            PaidDebts x = new PaidDebts();
            due("10 all, then one again", lawOf(x, 0, LETTERS + LETTERS.charAt(i)), -30);
            due("10 all, then one again behind blanks", lawOf(x, 0, LETTERS + "   " + LETTERS.charAt(i)), -33);
            due("10 one, another, the one again", lawOf(x, 0, LETTERS.charAt(i) + "o l".replace(LETTERS.charAt(i), 'c')
                + LETTERS.charAt(i)), -24);
            due("11 no law came of it", x.letter(0, 0), -4);
        }
    }

    private static void firstFault() {
        PaidDebts x = new PaidDebts();
        due("10 on place 0", lawOf(x, 0, "?cc?"), -20);
        due("10 of two that can't stand the first", lawOf(x, 0, "c?!"), -21);
        due("10 a letter twice ahead of another byte", lawOf(x, 0, "cdc?"), -22);
        due("10 another byte ahead of a letter twice", lawOf(x, 0, "cd?c"), -22);
        due("10 blanks count as places", lawOf(x, 0, "  c  c"), -25);
        due("10 no letter at all, another byte behind blanks", lawOf(x, 0, "   ?"), -23);
        due("10 a great letter is another byte", lawOf(x, 0, "cC"), -21);
        due("10 number 0 is no letter", lawOf(x, 0, "c0"), -21);
        due("10 a fault behind all letters", lawOf(x, 0, LETTERS + "?"), -30);
    }

    private static void blanks() {
        for (int n = 1; n <= 40; n++) {
            due("10 blanks alone, " + n, lawOf(new PaidDebts(), 0, " ".repeat(n)), -20 - n);
        }
        PaidDebts x = new PaidDebts();
        due("10 between", lawOf(x, 0, "c t"), 2);
        due("10 more than one between", lawOf(x, 0, "c    t"), 2);
        due("10 none between", lawOf(x, 0, "ct"), 2);
        due("10 ahead", lawOf(x, 0, "  ct"), 2);
        due("10 behind", lawOf(x, 0, "ct  "), 2);
        due("11 no blank is kept, first", x.letter(0, 0), 'c');
        due("11 no blank is kept, second", x.letter(0, 1), 't');
        due("11 no blank is kept, no third", x.letter(0, 2), -4);
    }

    private static void whatStays() {
        PaidDebts x = new PaidDebts();
        rule(x, 0, "c h");
        rule(x, 1, "t s o");
        due("10 a fault", lawOf(x, 0, "ldl"), -22);
        due("10 the law stays", x.letter(0, 1), 'h');
        due("10 no longer than it was", x.letter(0, 2), -4);
        due("10 the tape is empty then", x.type('u', 1), 1);
        due("10 bad", x.law(2), -1);
        due("10 the tape stays", x.type('d', 1), 2);
        due("10 a law", x.law(1), 2);
        due("10 the tape is empty then too", x.type('x', 1), 1);
        due("10 the old law is gone", x.letter(1, 2), -4);
        due("10 the new one stands", x.letter(1, 0), 'u');
        due("10 the other law is as it was", x.letter(0, 0), 'c');
        x.image();
        x.law(0);
        due("10 the tape of an image's day", x.letter(0, 0), 'x');
        x.restore();
        due("29 the law of the image", x.letter(0, 0), 'c');
        due("29 the tape does not come back", x.law(0), -20);
    }

    private static void order() {
        PaidDebts x = new PaidDebts();
        x.debt(10, 9, 0, 1);
        x.debt(20, 8, 0, 1);
        x.debt(10, 7, 0, 2);
        String[] laws = {"h l", "l h", "o", "l o", "h o"};
        int[][] ranks = {{2, 1, 0}, {1, 2, 0}, {2, 1, 0}, {1, 2, 0}, {2, 1, 0}};
        for (int i = 0; i < laws.length; i++) {
            rule(x, 0, laws[i]);
            for (int k = 0; k < 3; k++) {
                due("19 by " + laws[i] + ", " + k, x.rank(0, 9, k), ranks[i][k]);
            }
        }
    }

    private static void lettersAlone() {
        PaidDebts x = new PaidDebts();
        rule(x, 1, " l o u  h d p x s t c ");
        for (int i = 0; i < 10; i++) {
            due("11 letter " + i, x.letter(1, i), "louhdpxstc".charAt(i));
        }
        due("11 no eleventh", x.letter(1, 10), -4);
        due("11 far", x.letter(1, Integer.MAX_VALUE), -4);
        due("11 below", x.letter(1, -1), -1);
        due("11 far below", x.letter(1, Integer.MIN_VALUE), -1);
    }

    /** Each letter stands last in a law of all ten; where it is a key, it alone decides. */
    private static void tenLetters() {
        for (int last = 0; last < 10; last++) {
            PaidDebts x = new PaidDebts();
            char letter = LETTERS.charAt(last);
            rule(x, 0, LETTERS.substring(0, last) + LETTERS.substring(last + 1) + letter);
            x.image();
            rule(x, 0, "c");
            x.restore();
            due("29 the tenth letter comes back", x.letter(0, 9), letter);
            due("29 no eleventh does", x.letter(0, 10), -4);
            x.debt(5, letter == 'o' ? 1 : 0, letter == 'd' ? 9 : 0, 0);
            x.debt(letter == 'l' ? 6 : 5, 0, 0, letter == 'h' ? 1 : 0);
            x.set(0, 1, letter == 'u' ? 1 : -1);
            int day = letter == 'o' ? 1 : 0;
            due("19 by the tenth letter " + letter, x.rank(0, day, 0), "dhuol".indexOf(letter) >= 0 ? 1 : 0);
        }
    }

    private static void bytesOfANumber() {
        PaidDebts x = new PaidDebts();
        due("9 eight, the highest first", x.type(0x6374737870646875L, 8), 8);
        due("9 bytes above n do not count", x.type(0xff00ff00ff00206fL, 2), 10);
        due("9 nor if they are good", x.type(0x636363636363636cL, 1), 11);
        due("10 ten letters", x.law(0), 10);
        for (int i = 0; i < 10; i++) {
            due("9 in this order, " + i, x.letter(0, i), LETTERS.charAt(i));
        }
        long blanks = 0x2020202020202020L;
        for (int place = 0; place < 8; place++) {
            long hole = ~(0xffL << (8 * place));
            for (int wrong : new int[] {0, 31, 127, 128, 160, 255}) {
                due("9 byte " + wrong + " on place " + place, x.type(blanks & hole | (long) wrong << (8 * place), 8), -1);
            }
        }
        due("9 nothing came of it", x.type('c', 1), 1);
    }

    private static void words() {
        PaidDebts x = new PaidDebts();
        x.debt(5, 0, 0, 0);
        x.debt(5, 10, 0, 0);
        x.pay(9, 1);
        x.word(0, 0, 1);
        rule(x, 0, "c");
        due("12 on the day ahead of since a word does not count", x.put(0, 0, 0, 0), 10000);
        x.move(0, 10);
        due("12 on since it counts", x.put(0, 0, 1, 0), 10000);
        x.pay(11, 4);
        x.word(1, 0, 1);
        x.pay(11, 1);
        x.word(2, 0, 1);
        due("12 as much as is left", x.put(0, 1, 1, 0), 40000);
        due("12 nothing is left, so it does not count", x.put(0, 2, 0, 0), 10000);
        due("15 paid by it", x.paid(0, 1), 11);
        x.move(1, 12);
        due("12 what is over goes on", x.put(0, 1, 1, 0), 30000);
        due("12 to the other", x.put(0, 1, 0, 0), 10000);
        rule(x, 0, "t");
        due("12 without c no word counts", x.put(0, 0, 0, 0), 10000);
    }

    private static void answers() {
        PaidDebts x = new PaidDebts();
        x.debt(5, 0, 0, 0);
        x.debt(5, 0, 0, 0);
        x.debt(5, 10, 0, 0);
        x.pay(9, 1);
        x.word(0, 0, 2);
        x.word(0, 1, 1);
        rule(x, 0, "c t");
        due("12 the word does not count, so the answer does", x.put(0, 0, 1, 0), 10000);
        x.move(0, 10);
        due("12 the word counts, so the answer does not", x.put(0, 0, 2, 0), 10000);
        rule(x, 0, "t c");
        due("12 whatever stands first", x.put(0, 0, 2, 0), 10000);
        rule(x, 0, "t");
        due("12 without c the answer counts", x.put(0, 0, 1, 0), 10000);
        rule(x, 0, "c");
        x.move(0, 9);
        due("12 without t it does not", x.put(0, 0, 0, 0), 10000);
        rule(x, 0, "t");
        x.word(0, 1, 2);
        due("12 an answer to one that is not open does not count", x.put(0, 0, 0, 0), 10000);
        x.move(0, 10);
        due("12 on since it counts", x.put(0, 0, 2, 0), 10000);
        x.pay(11, 9);
        x.word(1, 1, 2);
        due("12 what is over an answer goes on", x.put(0, 1, 0, 0), 50000);
        x.pay(12, 1);
        x.word(2, 1, 2);
        due("12 an answer to a paid one does not count", x.put(0, 2, 1, 0), 10000);
    }

    private static void sumFirst() {
        PaidDebts x = new PaidDebts();
        x.debt(1, 0, 0, 99);
        x.pay(100, 1);
        due("14 run first: all that has run", x.put(0, 0, 0, 1), 9900);
        due("14 run first: the rest to the sum", x.put(0, 0, 0, 0), 100);
        rule(x, 0, "s");
        due("14 sum first: just the sum", x.put(0, 0, 0, 0), 10000);
        due("14 sum first: nothing to what has run", x.put(0, 0, 0, 1), 0);
        due("12 what has run is left", x.left(0, 0, 100, 2), 9900);
        due("12 and runs no further", x.left(0, 0, 299, 2), 9900);
        x.set(0, 0, 1);
        due("12 but upon itself it does", x.left(0, 0, 101, 2) - x.left(0, 0, 100, 2), x.left(0, 0, 100, 2) * 99 / 10000);
        x.set(0, 0, 0);
        x.pay(200, 1);
        due("14 then what has run", x.put(0, 1, 0, 1), 9900);
        due("14 the rest is spare", x.put(0, 1, -1, 0), 100);
        x.move(1, 100);
        due("14 on one day, the second takes what has run", x.put(0, 1, 0, 1), 9900);
        x.move(0, 101);
        due("14 the first is later: it takes the rest", x.put(0, 0, 0, 1), 9900);
    }

    private static void passingDeadOnes() {
        PaidDebts x = new PaidDebts();
        x.debt(5, 0, 10, 0);
        x.debt(5, 0, 10, 0);
        x.set(0, 3, 20);
        x.pay(30, 7);
        rule(x, 0, "x");
        due("14 just in time", x.put(0, 0, 0, 0), 50000);
        x.move(0, 31);
        due("14 a day later nothing", x.put(0, 0, 0, 0), 0);
        due("14 all to the other", x.put(0, 0, 1, 0), 50000);
        due("14 what is over is spare", x.put(0, 0, -1, 0), 20000);
        rule(x, 0, "d");
        due("14 without x the dead one", x.put(0, 0, 0, 0), 50000);
        x.word(0, 0, 0);
        rule(x, 0, "x c");
        due("14 by a word that counts", x.put(0, 0, 0, 0), 50000);
        rule(x, 0, "x t");
        due("14 not by one that does not", x.put(0, 0, 0, 0), 0);
        x.word(0, 1, 0);
        due("14 by an answer that counts", x.put(0, 0, 0, 0), 50000);
        rule(x, 0, "x c");
        x.word(0, 0, 1);
        due("14 the word to the other", x.put(0, 0, 1, 0), 50000);
        due("14 what is over not to the dead one", x.put(0, 0, -1, 0), 20000);
        x.pay(31, 1);
        x.word(1, 0, 0);
        x.pay(31, 1);
        due("14 the word of a day wakes it for the next", x.put(0, 2, 0, 0), 10000);
        x.word(1, 0, -1);
        due("14 without it, it stays dead", x.put(0, 2, 0, 0), 0);
    }

    /** Which of two debts each key puts first, just where they begin to differ. */
    private static void keys() {
        PaidDebts x = new PaidDebts();
        x.debt(5, 1, 10, 3);
        x.debt(5, 1, 9, 3);
        rule(x, 0, "d");
        due("19 neither is due", x.rank(0, 8, 0), 0);
        due("19 due on the day itself", x.rank(0, 9, 0), 1);
        due("19 both are due", x.rank(0, 10, 0), 0);
        x.set(0, 5, 99);
        due("19 due long ago", x.rank(0, 98, 0), 1);
        x.set(1, 5, 100);
        due("19 the other is due, on its day", x.rank(0, 99, 0), 0);
        x.set(1, 5, 9);
        x.set(0, 5, 10);
        rule(x, 0, "h");
        due("19 like rates", x.rank(0, 8, 0), 0);
        x.set(1, 4, 4);
        due("19 the greater rate", x.rank(0, 8, 0), 1);
        x.set(1, 4, 2);
        due("19 the lesser rate", x.rank(0, 8, 0), 0);
        rule(x, 0, "u");
        due("19 neither has anything", x.rank(0, 8, 0), 0);
        x.set(0, 1, 0);
        due("19 a pledge", x.rank(0, 8, 0), 1);
        x.set(1, 2, 1);
        due("19 a pledge, one who stands", x.rank(0, 8, 0), 0);
        x.set(0, 1, -1);
        due("19 one who stands", x.rank(0, 8, 0), 0);
        x.set(0, 2, 1);
        x.set(1, 2, 0);
        due("19 one who stands for the first", x.rank(0, 8, 0), 1);
        x.set(0, 1, 5);
        x.set(1, 1, 5);
        due("19 a pledge and one who stands is no more than a pledge", x.rank(0, 8, 0), 0);
        x = new PaidDebts();
        x.debt(5, 2, 0, 0);
        x.debt(5, 1, 0, 0);
        x.debt(6, 2, 0, 0);
        rule(x, 0, "o");
        rule(x, 1, "l");
        due("19 the lesser since", x.rank(0, 2, 0), 1);
        due("19 like since", x.rank(0, 2, 1), 0);
        due("19 the greater amount", x.rank(1, 2, 0), 2);
        due("19 like amounts", x.rank(1, 2, 1), 0);
        x.pay(3, 1);
        due("19 like amounts behind a payment", x.rank(1, 3, 2), 2);
        x.set(1, 4, 1);
        due("19 what has run counts", x.rank(1, 3, 0), 1);
        x.set(0, 4, 9);
        due("19 what has run counts for the first too", x.rank(1, 3, 0), 0);
        x.set(1, 4, 99);
        due("19 more has run on the second", x.rank(1, 3, 0), 1);
    }

    private static void likeOnes() {
        PaidDebts x = new PaidDebts();
        for (int d = 0; d < 4; d++) {
            x.debt(5, 0, 0, d / 2);
        }
        x.pay(0, 17);
        rule(x, 0, "h");
        due("14 of like ones the first", x.put(0, 0, 2, 0), 50000);
        due("14 then the second", x.put(0, 0, 3, 0), 50000);
        due("14 then the first of the others", x.put(0, 0, 0, 0), 50000);
        due("14 then what is over", x.put(0, 0, 1, 0), 20000);
        rule(x, 0, "h p");
        due("14 by parts alike", x.put(0, 0, 0, 0), 35000);
        due("14 by parts alike too", x.put(0, 0, 1, 0), 35000);
        rule(x, 0, "p o");
        due("14 all are like by this key", x.put(0, 0, 3, 0), 42500);
    }
}
