/** Boundary cases of the text: what the terms say of it, and the promises 1 to 5. */
final class BoundsOfText {
    private static final String TERMS = "Terms";
    private static final String TWELVE_CODES = "R9" + "k854095".repeat(12);
    private static final String SIX_DEVICES = "R9" + "d840953".repeat(6);

    private BoundsOfText() {
    }

    static void run() {
        terms();
        errors();
        promises1to4();
        promise5();
    }

    private static void terms() {
        Bounds.sentence(TERMS, "The object has a text buffer of at most 120 characters.",
                BoundsOfText::atMost120Characters);
        Bounds.sentence(TERMS, "A street is the letter R, a digit for the number of houses (2 to "
                + "9)", BoundsOfText::theHeadOfAStreet);
        Bounds.sentence(TERMS, "and then any number of parts, in any order",
                BoundsOfText::noPartsManyPartsAnyOrder);
        Bounds.sentence(TERMS, "the letter k, a digit for a house", BoundsOfText::housesOfCodes);
        Bounds.sentence(TERMS, "one for a key (0 to 5)", BoundsOfText::keysOfCodes);
        Bounds.sentence(TERMS, "and four for a code (0000 to 4095) that is entered for it",
                BoundsOfText::codesOfKeys);
        Bounds.sentence(TERMS, "at most 12 of these; the letter d", BoundsOfText::twelveCodes);
        Bounds.sentence(TERMS, "the letter d, a digit for a house, four for the code",
                BoundsOfText::housesAndCodesOfDevices);
        Bounds.sentence(TERMS, "one for the tolerance (0 to 3) of a device",
                BoundsOfText::tolerancesOfDevices);
        Bounds.sentence(TERMS, "at most 6 of these; the letter n", BoundsOfText::sixDevices);
        Bounds.sentence(TERMS, "the letter n and a digit for the noise (0 to 3)",
                () -> settings('n', 3, 3));
        Bounds.sentence(TERMS, "the letter s and a digit for the reach (0 to 8)",
                () -> settings('s', 8, 4));
        Bounds.sentence(TERMS, "Later parts with n and s replace earlier ones",
                BoundsOfText::laterSettings);
        Bounds.sentence(TERMS, "a k may be told for a key again (it makes a record likewise)",
                BoundsOfText::aKeyTwelveTimes);
        Bounds.sentence(TERMS, "There are no blanks.", BoundsOfText::noBlanks);
    }

    private static void errors() {
        Bounds.sentence(TERMS, "The text is read from left to right.",
                BoundsOfText::theFirstErrorCounts);
        Bounds.sentence(TERMS, "The error position is the index of the first character that these "
                + "rules do not allow at its place", BoundsOfText::eachCharacterAtEachPlace);
        Bounds.sentence(TERMS, "(a digit is not allowed if no number that is allowed begins with "
                + "it and those before it)", BoundsOfText::digitsOfCodes);
        Bounds.sentence(TERMS, "if the text ends too soon, it is the length of the text",
                BoundsOfText::eachBeginning);
    }

    private static void promises1to4() {
        Bounds.sentence("Promise 1", "Creates a street of 4 houses without codes and devices.",
                BoundsOfText::aNewObject);
        Bounds.sentence("Promise 2", "c: character code, 0 to 255",
                BoundsOfText::leastAndGreatestCharacters);
        Bounds.sentence("Promise 2", "Returns the new length of the text.",
                BoundsOfText::lengthsFrom1To120);
        Bounds.sentence("Promise 2", "Throws IllegalArgumentException if c is out of range",
                BoundsOfText::noCharacters);
        Bounds.sentence("Promise 2", "Throws IllegalStateException if the text already has 120 "
                + "characters", BoundsOfText::aFullText);
        Bounds.sentence("Promise 3", "Empties the text buffer.", BoundsOfText::emptied);
        Bounds.sentence("Promise 3", "Returns the previous length of the text.",
                BoundsOfText::previousLengths);
        Bounds.sentence("Promise 4", "Returns the error position of the text; NONE if it is a "
                + "street.", BoundsOfText::positionsFrom0To120);
    }

    private static void promise5() {
        Bounds.sentence("Promise 5", "Replaces everything by the street of the text",
                BoundsOfText::everythingIsReplaced);
        Bounds.sentence("Promise 5", "(x is 1 then, and what is not told is as in a new object)",
                BoundsOfText::notToldIsAsInANewObject);
        Bounds.sentence("Promise 5", "Forgets all remembered states and empties both save slots.",
                BoundsOfText::forgotten);
        Bounds.sentence("Promise 5", "Keeps the text.", BoundsOfText::textIsKept);
        Bounds.sentence("Promise 5", "Returns the number of records.",
                BoundsOfText::fromNoneToTwelveRecords);
        Bounds.sentence("Promise 5", "Throws IllegalStateException if the text is not a street",
                BoundsOfText::noStreets);
    }

    // ---- what the terms say of the text

    private static void atMost120Characters() {
        Bounds.isStreet("R9" + "s8".repeat(59));
        String full = "R9" + "s8".repeat(59);
        Bounds.refused(Due.BAD_STATE, () -> Bounds.withText(full), "a character more",
                t -> t.append('s'));
        TaughtRemotes t = Bounds.withText(full);
        Due.answers(0, "the street is that of all 120", t::load);
        Due.answers(8, "its reach", () -> t.about(4));
    }

    private static void theHeadOfAStreet() {
        Bounds.isStreet("R2");
        Bounds.isStreet("R9");
        Bounds.position(0, "");
        Bounds.position(1, "R");
        for (char c = 0; c < 256; c++) {
            Bounds.position(c == 'R' ? Due.NONE : 0, c + "2");
            Bounds.position(c >= '2' && c <= '9' ? Due.NONE : 1, "R" + c);
        }
        for (int houses = 2; houses <= 9; houses++) {
            TaughtRemotes t = Due.street("R" + houses);
            Due.answers(houses, "houses", () -> t.about(0));
        }
    }

    private static void noPartsManyPartsAnyOrder() {
        Bounds.isStreet("R5");
        Bounds.isStreet("R5" + "n3s8".repeat(29));
        String[] parts = {"k450007", "d440951", "n0", "s8"};
        for (int order = 0; order < 256; order++) {
            StringBuilder text = new StringBuilder("R5");
            int told = 0;
            for (int place = 0; place < 4; place++) {
                int part = order >> 2 * place & 3;
                told |= 1 << part;
                text.append(parts[part]);
            }
            Bounds.isStreet(text.toString());
            if (told == 15) {
                TaughtRemotes t = Due.street(text.toString());
                Due.same("7 4095 0 8", t.key(4, 5, 0) + " " + t.device(0, 1) + " " + t.about(3)
                        + " " + t.about(4), "the street " + text);
            }
        }
    }

    private static void housesOfCodes() {
        for (int i = 0; i < 80; i++) {
            int houses = 2 + i / 10;
            int h = i % 10;
            Bounds.position(h < houses ? Due.NONE : 3, "R" + houses + "k" + h + "00000");
        }
        Due.answers(1, "in the last house", () -> Due.street("R9k850001").key(8, 5, 0));
    }

    private static void keysOfCodes() {
        for (int k = 0; k < 10; k++) {
            int key = k;
            Bounds.position(k <= 5 ? Due.NONE : 4, "R4k3" + k + "0000");
            if (k <= 5) {
                Due.answers(0, "the code of key " + k,
                        () -> Due.street("R4k3" + key + "0000").key(3, key, 0));
            }
        }
    }

    private static void codesOfKeys() {
        for (int code : new int[] {0, 1, 9, 10, 99, 100, 999, 1000, 3999, 4000, 4089, 4095}) {
            String text = "R4k00" + String.format("%04d", code);
            Bounds.isStreet(text);
            Due.answers(code, "the code of " + text, () -> Due.street(text).key(0, 0, 0));
        }
        Bounds.position(8, "R4k004096");
        Bounds.position(8, "R4k00009");
        Bounds.position(9, "R4k0000095");
    }

    private static void twelveCodes() {
        Bounds.isStreet(TWELVE_CODES);
        Due.answers(12, "records", () -> Due.street(TWELVE_CODES).about(2));
        Bounds.position(TWELVE_CODES.length(), TWELVE_CODES + "k");
        Bounds.position(TWELVE_CODES.length(), TWELVE_CODES + "k000000");
        Bounds.position(TWELVE_CODES.length() + 4, TWELVE_CODES + "n1s1k000000");
        Bounds.isStreet(TWELVE_CODES + "n1s1d000000");
    }

    private static void housesAndCodesOfDevices() {
        for (int i = 0; i < 80; i++) {
            int houses = 2 + i / 10;
            int h = i % 10;
            Bounds.position(h < houses ? Due.NONE : 3, "R" + houses + "d" + h + "00000");
        }
        Due.answers(8, "in the last house", () -> Due.street("R9d800000").device(0, 0));
        for (int code : new int[] {0, 1, 9, 10, 99, 100, 999, 1000, 3999, 4000, 4089, 4095}) {
            String text = "R4d3" + String.format("%04d", code) + "0";
            Bounds.isStreet(text);
            Due.answers(code, "the code of " + text, () -> Due.street(text).device(0, 1));
        }
        Bounds.position(7, "R4d040960");
    }

    private static void tolerancesOfDevices() {
        for (int v = 0; v < 10; v++) {
            int tolerance = v;
            Bounds.position(v <= 3 ? Due.NONE : 8, "R4d00000" + v);
            if (v <= 3) {
                Due.answers(v, "the tolerance",
                        () -> Due.street("R4d00000" + tolerance).device(0, 2));
            }
        }
    }

    private static void sixDevices() {
        Bounds.isStreet(SIX_DEVICES);
        Due.answers(6, "devices", () -> Due.street(SIX_DEVICES).about(1));
        Bounds.position(SIX_DEVICES.length(), SIX_DEVICES + "d");
        Bounds.position(SIX_DEVICES.length(), SIX_DEVICES + "d000000");
        Bounds.position(SIX_DEVICES.length() + 4, SIX_DEVICES + "n1s1d000000");
        Bounds.isStreet(SIX_DEVICES + "n1s1k000000");
    }

    private static void settings(char letter, int greatest, int asked) {
        for (int v = 0; v < 10; v++) {
            String text = "R4" + letter + v;
            Bounds.position(v <= greatest ? Due.NONE : 3, text);
            if (v <= greatest) {
                Due.answers(v, text, () -> Due.street(text).about(asked));
            }
        }
        Bounds.position(4, "R4" + letter + "00");
        Bounds.position(4, "R4" + letter + "11");
    }

    private static void laterSettings() {
        Due.answers(0, "the last noise", () -> Due.street("R4n3s5n2n0").about(3));
        Due.answers(3, "the last noise", () -> Due.street("R4n0s5n2n3").about(3));
        Due.answers(0, "the last reach", () -> Due.street("R4s8n3s7s0").about(4));
        Due.answers(8, "the last reach", () -> Due.street("R4s0n3s7s8").about(4));
    }

    private static void aKeyTwelveTimes() {
        TaughtRemotes twice = Due.street("R4k120007k120008");
        Due.answers(2, "records of two", () -> twice.about(2));
        Due.answers(7, "the earlier one stays", () -> twice.record(0, 3));
        Due.answers(8, "the later one is the key's", () -> twice.key(1, 2, 0));
        TaughtRemotes same = Due.street("R4k120007k120007");
        Due.answers(1, "also with the same code", () -> same.key(1, 2, 1));
        TaughtRemotes twelve = Due.street(TWELVE_CODES);
        Due.answers(11, "the last of twelve", () -> twelve.key(8, 5, 1));
    }

    private static void noBlanks() {
        Bounds.position(0, " R4");
        Bounds.position(1, "R 4");
        Bounds.position(2, "R4 ");
        Bounds.position(2, "R4 n1");
        Bounds.position(3, "R4n 1");
        Bounds.position(4, "R4n1 ");
        Bounds.position(5, "R4k00 0001");
        for (char c : new char[] {'\t', '\n', '\r', 0, 160}) {
            Bounds.position(2, "R4" + c);
        }
    }

    // ---- error positions

    private static void theFirstErrorCounts() {
        Bounds.position(0, "x1k9");
        Bounds.position(1, "R1k9");
        Bounds.position(3, "R4k9");
        Bounds.position(3, "R4k96");
        Bounds.position(4, "R4k064096x");
        Bounds.position(5, "R4n3n4s9");
        Bounds.position(3, "R2k200000R");
        // The number of houses stands before the parts, so that what comes later cannot widen it.
        Bounds.position(3, "R2k200000R9");
    }

    /** What each place of this text allows, told by hand; all else is refused just there. */
    private static void eachCharacterAtEachPlace() {
        String text = "R4k350023d200230n1s1";
        String letters = "kdns";
        String digits = "0123456789";
        String[] allowed = {"R", "456789", letters, "0123", "012345", "01234", digits, digits,
            digits, letters, "0123", "01234", digits, digits, digits, "0123", letters, "0123",
            letters, "012345678"};
        for (int i = 0; i < text.length(); i++) {
            for (char c = 0; c < 256; c++) {
                if (allowed[i].indexOf(c) < 0) {
                    // Fewer houses are refused later, where the house 3 stands.
                    int want = i == 1 && (c == '2' || c == '3') ? 3 : i;
                    Bounds.position(want, text.substring(0, i) + c + text.substring(i + 1));
                } else if (letters.indexOf(c) < 0) {
                    Bounds.isStreet(text.substring(0, i) + c + text.substring(i + 1));
                }
            }
        }
    }

    /** Each number of four digits; the first digit with which it is greater than any allowed. */
    private static void digitsOfCodes() {
        for (int code = 0; code < 10000; code++) {
            String digits = String.format("%04d", code);
            int error = Due.NONE;
            for (int i = 3; i >= 0; i--) {
                int shift = new int[] {1000, 100, 10, 1}[i];
                error = code / shift * shift > 4095 ? i : error;
            }
            TaughtRemotes t = new TaughtRemotes();
            Due.write(t, "R4k00" + digits);
            Due.answers(error == Due.NONE ? error : 5 + error, "k00" + digits, t::errorPosition);
            Due.write(t, "R4d0" + digits + "0");
            Due.answers(error == Due.NONE ? error : 4 + error, "d0" + digits, t::errorPosition);
        }
    }

    /** A beginning is a street only where a part ends. */
    private static void eachBeginning() {
        String text = "R4k350123d201230n1s1k000000";
        for (int length = 0; length <= text.length(); length++) {
            boolean ends = length == 2 || length == 9 || length == 16 || length == 18
                    || length == 20 || length == 27;
            Bounds.position(ends ? Due.NONE : length, text.substring(0, length));
        }
        Bounds.position(120, "R4" + "n1".repeat(58) + "k0");
        Bounds.position(119, "R4" + "n1".repeat(58) + "s");
    }

    // ---- promises 1 to 4

    private static void aNewObject() {
        TaughtRemotes t = new TaughtRemotes();
        int[] want = {4, 0, 0, 1, 2, 0, 0, 0, 0, Due.NONE};
        for (int what = 0; what < want.length; what++) {
            int asked = what;
            Due.answers(want[what], "about " + what, () -> t.about(asked));
        }
        for (int i = 0; i < 24; i++) {
            int key = i;
            Due.answers(Due.NONE, "a code", () -> t.key(key / 6, key % 6, 0));
        }
        Bounds.refused(Due.NO_PLACE, Bounds::untouched, "house 4", s -> s.key(4, 0, 0));
        Bounds.refused(Due.NO_PLACE, Bounds::untouched, "record 0", s -> s.record(0, 0));
        Bounds.refused(Due.NO_PLACE, Bounds::untouched, "device 0", s -> s.device(0, 0));
        Bounds.refused(Due.BAD_STATE, Bounds::untouched, "undo", s -> s.undo());
        Bounds.refused(Due.BAD_STATE, Bounds::untouched, "slot 0", s -> s.restore(0));
        Bounds.refused(Due.BAD_STATE, Bounds::untouched, "slot 1", s -> s.restore(1));
        Due.answers(0, "an empty text", t::clearText);
    }

    private static void leastAndGreatestCharacters() {
        TaughtRemotes t = new TaughtRemotes();
        Due.answers(1, "0", () -> t.append(0));
        Due.answers(2, "255", () -> t.append(255));
        Due.answers(3, "'R'", () -> t.append('R'));
        // A character that is taken for another one would not be refused at its place.
        Bounds.position(2, "R4" + (char) 0);
        Bounds.position(2, "R4" + (char) 255);
    }

    private static void lengthsFrom1To120() {
        TaughtRemotes t = new TaughtRemotes();
        for (int i = 1; i <= 120; i++) {
            Due.answers(i, "the length with number " + i, () -> t.append('R'));
        }
        t.clearText();
        Due.answers(1, "the length after clearText", () -> t.append('R'));
    }

    private static void noCharacters() {
        int[] refused = {-1, 256, 'R' + 256, 'R' - 256, 'R' + 65536, -174};
        for (int c : refused) {
            Bounds.refused(Due.BAD_ARGUMENT, Bounds::busy, "append " + c, t -> t.append(c));
            Bounds.refused(Due.BAD_ARGUMENT, Bounds::untouched, "append " + c, t -> t.append(c));
        }
        for (int c : Bounds.FAR) {
            Bounds.refused(Due.BAD_ARGUMENT, Bounds::busy, "append " + c, t -> t.append(c));
        }
    }

    private static void aFullText() {
        String nearly = "R4" + "n1".repeat(58) + "n";
        TaughtRemotes t = Bounds.withText(nearly);
        Due.answers(120, "the character 120", () -> t.append('2'));
        for (int c : new int[] {0, '2', 255}) {
            Bounds.refused(Due.BAD_STATE, () -> Bounds.withText(nearly + "2"), "append " + c,
                    s -> s.append(c));
        }
        Due.answers(Due.NONE, "the text is what it was", () -> {
            Bounds.outcome(t, s -> s.append('x'));
            return t.errorPosition();
        });
    }

    private static void emptied() {
        TaughtRemotes t = Bounds.withText("R4" + "n1".repeat(59));
        t.clearText();
        Due.answers(0, "the error position of nothing", t::errorPosition);
        Due.answers(1, "the first character anew", () -> t.append('R'));
        Due.answers(1, "nothing is left behind it", t::errorPosition);
        for (int i = 2; i <= 120; i++) {
            int want = i;
            Due.answers(want, "room for all 120", () -> t.append('2'));
        }
    }

    private static void previousLengths() {
        TaughtRemotes t = new TaughtRemotes();
        Due.answers(0, "of a new object", t::clearText);
        Due.answers(0, "of an empty text", t::clearText);
        t.append('R');
        Due.answers(1, "of one", t::clearText);
        Due.answers(0, "of an emptied text", t::clearText);
        Due.answers(119, "of 119", () -> Bounds.withText("x".repeat(119)).clearText());
        Due.answers(120, "of 120", () -> Bounds.withText("x".repeat(120)).clearText());
    }

    private static void positionsFrom0To120() {
        Bounds.position(0, "");
        Bounds.position(0, "x");
        Bounds.position(0, "x".repeat(120));
        Bounds.isStreet("R4" + "n1".repeat(59));
        Bounds.position(119, "R4" + "n1".repeat(58) + "nx");
        Bounds.position(120, "R4" + "n1".repeat(58) + "k0");
        Bounds.unchanged(Bounds::busy, "errorPosition", t -> t.errorPosition());
        Bounds.unchanged(() -> Bounds.withText("R4k"), "errorPosition", t -> t.errorPosition());
        Bounds.unchanged(() -> Bounds.withText(""), "errorPosition", t -> t.errorPosition());
    }

    // ---- promise 5

    private static void everythingIsReplaced() {
        TaughtRemotes t = Bounds.withText("R9k850003d840952n0s0");
        t.load();
        int[] about = {9, 1, 1, 0, 0, 0, 0, 0, 1, 0};
        for (int what = 0; what < about.length; what++) {
            int asked = what;
            Due.answers(about[what], "about " + what, () -> t.about(asked));
        }
        for (int i = 0; i < 54; i++) {
            int key = i;
            Due.answers(i == 53 ? 3 : Due.NONE, "the code of " + i,
                    () -> t.key(key / 6, key % 6, 0));
        }
        int[] record = {Due.NONE, 8, 5, 3, Due.NONE, 0, 1};
        for (int what = 0; what < record.length; what++) {
            int asked = what;
            Due.answers(record[what], "record " + what, () -> t.record(0, asked));
        }
        int[] device = {8, 4095, 2, 0};
        for (int what = 0; what < device.length; what++) {
            int asked = what;
            Due.answers(device[what], "device " + what, () -> t.device(0, asked));
        }
    }

    private static void notToldIsAsInANewObject() {
        TaughtRemotes t = Bounds.withText("R4");
        t.load();
        Due.same(Bounds.all(Bounds.untouched()), Bounds.all(t), "a street that tells nothing");
        TaughtRemotes x = Bounds.withText("R9k000000");
        x.load();
        Due.answers(32, "x is 1", () -> x.teach(0, 0, 8, 0));
        Due.answers(512, "and goes on from there", () -> x.teach(0, 0, 8, 0));
        x.load();
        Due.answers(32, "x is 1 again", () -> x.teach(0, 0, 8, 0));
    }

    private static void forgotten() {
        TaughtRemotes t = Bounds.fullOfRecords();
        t.load();
        Due.same(Due.BAD_STATE.getName(), Bounds.outcome(t, s -> s.undo()), "undo");
        Due.same(Due.BAD_STATE.getName(), Bounds.outcome(t, s -> s.restore(0)), "restore(0)");
        Due.same(Due.BAD_STATE.getName(), Bounds.outcome(t, s -> s.restore(1)), "restore(1)");
        t.set(1, 5);
        Due.answers(0, "undo of what was done since", t::undo);
        Due.same(Due.BAD_STATE.getName(), Bounds.outcome(t, s -> s.undo()), "undo once more");
        t.save(1);
        Due.same(Due.BAD_STATE.getName(), Bounds.outcome(t, s -> s.restore(0)), "slot 0 still");
        Due.answers(1, "slot 1, saved since", () -> t.restore(1));
    }

    private static void textIsKept() {
        TaughtRemotes t = Bounds.withText("R3k000007");
        Due.answers(1, "load", t::load);
        Due.answers(Due.NONE, "it is a street still", t::errorPosition);
        Due.answers(1, "load again", t::load);
        Due.answers(9, "its length", t::clearText);
    }

    private static void fromNoneToTwelveRecords() {
        Due.answers(0, "none", () -> Bounds.withText("R3").load());
        Due.answers(0, "none but devices", () -> Bounds.withText(SIX_DEVICES).load());
        Due.answers(1, "one", () -> Bounds.withText("R3k000000").load());
        Due.answers(12, "twelve", () -> Bounds.withText(TWELVE_CODES).load());
    }

    private static void noStreets() {
        String[] texts = {"", "R", "R1", "x", "R4k", "R4k00123", "R4 ", "R4n4", "R3k300000",
            TWELVE_CODES + "k000000", SIX_DEVICES + "d000000", "R4" + "n1".repeat(58) + "k0"};
        for (String text : texts) {
            Bounds.refused(Due.BAD_STATE, () -> Bounds.withText(text), "load of " + text,
                    t -> t.load());
        }
        Bounds.refused(Due.BAD_STATE, Bounds::untouched, "load on a new object", t -> t.load());
    }
}
