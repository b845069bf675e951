/** Prints every answer that is not the one that is due, and ends the program accordingly. */
final class Check {
    private static int wrong = 0;
    private static int looked = 0;
    private static int sentences = 0;
    /** Which sentence of the document is tested, as far as the test has told. */
    private static String sentence = "";

    private Check() {
    }

    /** What is due from here on is so by these words of the document, as one sees by the calls of this promise. */
    static void sentence(int promise, String words) {
        sentences++;
        sentence = "promise " + promise + ", '" + words + "': ";
        if (!Document.says(promise, words)) {
            wrong++;
            System.out.println(sentence + "the document does not say so");
        }
    }

    static void due(String call, long got, long want) {
        looked++;
        if (got != want) {
            wrong++;
            System.out.println(sentence + call + " answered " + got + ", due is " + want);
        }
    }

    static void feed(OneForDog x, String text) {
        for (int i = 0; i < text.length(); i++) {
            x.feed(text.charAt(i));
        }
    }

    /** What village() answers to a text. */
    static int village(OneForDog x, String text) {
        feed(x, text);
        return x.village();
    }

    /** A new object with men of kinds and numbers v, one behind the other. */
    static OneForDog men(int... kindsAndNumbers) {
        OneForDog x = new OneForDog();
        for (int i = 0; i + 1 < kindsAndNumbers.length; i += 2) {
            x.man(kindsAndNumbers[i], kindsAndNumbers[i + 1]);
        }
        return x;
    }

    static void row(OneForDog x, int... men) {
        x.row(-1);
        for (int man : men) {
            x.row(man);
        }
    }

    static void book(OneForDog x, int... heaps) {
        x.book(-1);
        for (int heap : heaps) {
            x.book(heap);
        }
    }

    static void end() {
        String told = sentences == 0 ? "" : sentences + " sentences, ";
        System.out.println(told + looked + " answers looked at, " + wrong + " not as due");
        if (wrong != 0 || looked == 0) {
            System.exit(1);
        }
    }
}
