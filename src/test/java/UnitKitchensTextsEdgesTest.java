/** The boundary cases of texts and undo: promises 17 to 21, "Input text" and "Undo" of ../shared/DOC.md. */
public final class UnitKitchensTextsEdgesTest extends Edges {
    public static void main(String[] args) {
        append();
        clearBuffer();
        firstErrorSigns();
        firstErrorNumbers();
        firstErrorLength();
        sheetsThatAreNotComplete();
        sheetsOfOne();
        sheetsThatStop();
        sheetsAndUndo();
        undo();
        undoOfAll();
        undoAndBuffer();
        end();
    }

    private static final String SIXTY =
            "0:1@1+30,0:1@1+30,0:1@1+30,0:1@1+30,0:1@1+30,0:100g100@1+600";

    private static String repeated(char character, int many) {
        StringBuilder text = new StringBuilder();
        for (int i = 0; i < many; i++) {
            text.append(character);
        }
        return text.toString();
    }

    // ---- promises 17 and 18

    private static void append() {
        edge("promise 17", "codes are 33 to 126", () -> {
            UnitKitchens x = new UnitKitchens();
            is(x.append(33), 1);
            is(x.append(126), 2);
            is(x.clearBuffer(), 2);
            refusedOutside(ARGUMENT, Edges::busy, UnitKitchens::append, 33, 126);
            // codes that become one of 33 to 126 if only their lowest bits are looked at
            refusedFor(ARGUMENT, Edges::busy, UnitKitchens::append, 0, 128 + 48, 256 + 48, 65536 + 48);
        });
        edge("promise 17", "each code is kept as it is", () -> {
            for (int code = 33; code <= 126; code++) {
                UnitKitchens x = new UnitKitchens();
                long empty = x.digest();
                x.append(code);
                // the length 0 was the last value; now it is 1, and one more follows
                is(x.digest(), 31 * (empty + 1) + code);
            }
        });
        edge("promise 17", "the 60th character is taken, a 61st is refused", () -> {
            UnitKitchens x = new UnitKitchens();
            for (int i = 1; i <= 60; i++) {
                is(x.append('!'), i);
            }
            refused(STATE, () -> typed(repeated('!', 60)), film -> film.append('!'));
            x.clearBuffer();
            is(x.append('!'), 1);
        });
        edge("promise 17", "of both exceptions that of the argument is thrown", () ->
                refusedOutside(ARGUMENT, () -> typed(repeated('!', 60)), UnitKitchens::append, 33, 126));
        edge("promise 17", "not undoable", () -> {
            UnitKitchens x = new UnitKitchens();
            x.append('0');
            is(x.count(16), 0);
        });
    }

    private static void clearBuffer() {
        edge("promise 18", "an empty buffer: 0", () -> {
            UnitKitchens x = new UnitKitchens();
            is(x.clearBuffer(), 0);
            is(x.clearBuffer(), 0);
        });
        edge("promise 18", "one character, and a full buffer", () -> {
            is(typed("!").clearBuffer(), 1);
            UnitKitchens x = typed(repeated('!', 60));
            is(x.clearBuffer(), 60);
            is(x.clearBuffer(), 0);
            is(x.firstError(), 0);
        });
        edge("promise 18", "not undoable", () -> {
            UnitKitchens x = typed("0:5");
            x.clearBuffer();
            is(x.count(16), 4);
            x.undo();
            is(x.clearBuffer(), 0);
        });
    }

    // ---- promise 19

    private static int errorOf(String text) {
        UnitKitchens x = new UnitKitchens();
        type(x, text);
        return x.firstError();
    }

    /** Behind this text just these signs can stand. */
    private static void canFollow(String text, String signs) {
        for (char sign = 33; sign <= 126; sign++) {
            int due = signs.indexOf(sign) >= 0 ? text.length() + 1 : text.length();
            String longer = text + sign;
            of(longer, () -> is(errorOf(longer), due));
        }
    }

    private static void firstErrorSigns() {
        edge("promise 19", "an empty buffer has no error", () -> is(errorOf(""), 0));
        edge("promise 19", "a place is 0 to 7", () -> canFollow("", "01234567"));
        edge("promise 19", "one digit, then \":\"", () -> {
            canFollow("0", ":");
            canFollow("7", ":");
        });
        edge("promise 19", "behind \":\" no leading zero, and no empty number", () -> canFollow("3:", "123456789"));
        edge("promise 19", "behind people \"g\" or \"@\"", () -> {
            canFollow("3:1", "0123456789g@");
            canFollow("3:30", "0g@");
            canFollow("3:31", "g@");
            canFollow("3:300", "g@");
            canFollow("3:299", "g@");
        });
        edge("promise 19", "behind \"g\" a zero too, and nothing but \"@\" behind it", () -> {
            canFollow("3:5g", "0123456789");
            canFollow("3:5g0", "@");
            canFollow("3:5g1", "0123456789@");
            canFollow("3:5g30", "0@");
            canFollow("3:5g300", "@");
        });
        edge("promise 19", "behind \"@\" no zero; behind the minutes \"+\"", () -> {
            canFollow("3:5@", "123456789");
            canFollow("3:5g5@", "123456789");
            canFollow("3:5@1", "0123456789+");
            canFollow("3:5@60", "0+");
            canFollow("3:5@61", "+");
            canFollow("3:5@600", "+");
        });
        edge("promise 19", "behind \"+\" no zero; \",\" from the interval 30 on", () -> {
            canFollow("3:5@1+", "123456789");
            canFollow("3:5@1+2", "0123456789");
            canFollow("3:5@1+3", "0123456789");
            canFollow("3:5@1+29", "0123456789");
            canFollow("3:5@1+30", "0123456789,");
            canFollow("3:5@1+60", "0,");
            canFollow("3:5@1+61", ",");
            canFollow("3:5@1+599", ",");
            canFollow("3:5@1+600", ",");
        });
        edge("promise 19", "behind \",\" a unit again", () -> {
            canFollow("3:5@1+30,", "01234567");
            canFollow("3:5g5@1+30,7", ":");
            canFollow("3:5g5@1+30,7:", "123456789");
            canFollow("3:5g5@1+30,7:300", "g@");
            canFollow("3:5g5@1+30,7:300@600+600", ",");
        });
        edge("promise 19", "more greens than people are no matter of syntax", () -> is(errorOf("0:1g300@1+30"), 12));
    }

    /** The digits of these numbers, tried out: a number of the range that begins with a text is looked for. */
    private static boolean begins(String digits, int least, int most) {
        for (int number = least; number <= most; number++) {
            if (String.valueOf(number).startsWith(digits)) {
                return true;
            }
        }
        return false;
    }

    private static boolean isOf(String digits, int least, int most) {
        for (int number = least; number <= most; number++) {
            if (String.valueOf(number).equals(digits)) {
                return true;
            }
        }
        return false;
    }

    /** Tries out all digits up to four behind a text, and a sign that can stand behind a whole number. */
    private static void numbers(String before, int least, int most, char sign) {
        for (int width = 1; width <= 4; width++) {
            int end = 1;
            for (int i = 0; i < width; i++) {
                end *= 10;
            }
            for (int number = 0; number < end; number++) {
                String digits = String.valueOf(end + number).substring(1);
                int good = 0;
                while (good < width && begins(digits.substring(0, good + 1), least, most)) {
                    good++;
                }
                int due = before.length() + good + (good == width && isOf(digits, least, most) ? 1 : 0);
                String text = before + digits + sign;
                of(text, () -> is(errorOf(text), due));
                if (good < width - 1) {
                    // what stands behind the first error does not matter: on with the next number that differs before
                    int step = 1;
                    for (int i = good + 1; i < width; i++) {
                        step *= 10;
                    }
                    number += step - 1;
                }
            }
        }
    }

    private static void firstErrorNumbers() {
        edge("promise 19", "people are 1 to 300, without leading zeros", () -> numbers("5:", 1, 300, '@'));
        edge("promise 19", "people ahead of greens are 1 to 300", () -> numbers("5:", 1, 300, 'g'));
        edge("promise 19", "greens are 0 to 300, without leading zeros", () -> numbers("5:1g", 0, 300, '@'));
        edge("promise 19", "minutes are 1 to 600, without leading zeros", () -> numbers("5:1@", 1, 600, '+'));
        edge("promise 19", "the interval is 30 to 600, without leading zeros", () -> numbers("5:1@1+", 30, 600, ','));
    }

    private static void firstErrorLength() {
        edge("promise 19", "a full buffer without an error: 60", () -> {
            is(errorOf(SIXTY), 60);
            is(SIXTY.length(), 60);
        });
        edge("promise 19", "a sheet may go on behind the end of a full buffer", () -> {
            is(errorOf("0:1@1+30,0:1@1+30,0:1@1+30,0:1@1+30,0:1@1+30,0:100g100@1+30,"), 60);
            is(errorOf("0:1@1+30,0:1@1+30,0:1@1+30,0:1@1+30,0:1@1+30,0:1@1+30,0:1@1+"), 60);
        });
        edge("promise 19", "an error in the last character of a full buffer", () -> {
            is(errorOf("0:1@1+30,0:1@1+30,0:1@1+30,0:1@1+30,0:1@1+30,0:100g100@1+60g"), 59);
            is(errorOf("0:1@1+30,0:1@1+30,0:1@1+30,0:1@1+30,0:1@1+30,0:100g100@1+601"), 59);
        });
        edge("promise 19", "the first of several errors", () -> {
            is(errorOf("!!!"), 0);
            is(errorOf("0:5@x+y"), 4);
            is(errorOf(repeated('~', 60)), 0);
        });
        edge("promise 19", "it only tells", () -> {
            onlyTells(() -> typed("0:5@x"), UnitKitchens::firstError);
            onlyTells(() -> typed(SIXTY), UnitKitchens::firstError);
        });
    }

    // ---- promise 20

    private static void sheetsThatAreNotComplete() {
        edge("promise 20", "an empty buffer, with places and without", () -> {
            refused(ARGUMENT, Edges::places, UnitKitchens::addSheet);
            refused(ARGUMENT, UnitKitchens::new, UnitKitchens::addSheet);
        });
        edge("promise 20", "each beginning of a sheet", () -> {
            String text = "3:300g300@600+600,3:300@1+30";
            for (int length = 0; length <= text.length(); length++) {
                String begin = text.substring(0, length);
                if (length == 16 || length == 17 || length == text.length()) {
                    is(typed(begin).addSheet(), length > 17 ? 2 : 1);
                } else {
                    refused(ARGUMENT, () -> typed(begin), UnitKitchens::addSheet);
                }
            }
        });
        edge("promise 20", "an interval of 29, of 30, of 600 and of 601", () -> {
            refused(ARGUMENT, () -> typed("0:4@1+29"), UnitKitchens::addSheet);
            is(typed("0:4@1+30").addSheet(), 1);
            is(typed("0:4@1+600").addSheet(), 1);
            refused(ARGUMENT, () -> typed("0:4@1+601"), UnitKitchens::addSheet);
        });
        edge("promise 20", "an error in the first and in the last character", () -> {
            refused(ARGUMENT, () -> typed("80:4@1+30"), UnitKitchens::addSheet);
            refused(ARGUMENT, () -> typed("0:4@1+30!"), UnitKitchens::addSheet);
            refused(ARGUMENT, () -> typed("0:4@1+30,,0:4@1+30"), UnitKitchens::addSheet);
        });
        edge("promise 20", "a full buffer that is not complete", () -> {
            String cut = "0:1@1+30,0:1@1+30,0:1@1+30,0:1@1+30,0:1@1+30,0:1@1+30,0:1@1+";
            refused(ARGUMENT, () -> typed(cut), UnitKitchens::addSheet);
            refused(ARGUMENT, () -> typed(SIXTY.substring(0, 59) + ','), UnitKitchens::addSheet);
        });
        edge("promise 20", "a sheet that would add no unit must be complete too", () -> {
            refused(ARGUMENT, () -> typed("7:4@1+30,"), UnitKitchens::addSheet);
            refused(ARGUMENT, () -> oneMoreTyped("0:4@1+3"), UnitKitchens::addSheet);
        });
    }

    private static UnitKitchens oneMoreTyped(String text) {
        UnitKitchens x = full();
        type(x, text);
        return x;
    }

    private static void sheetsOfOne() {
        edge("promise 20", "the least of everything", () -> {
            UnitKitchens x = typed("0:1@1+30");
            x.pass(9);
            is(x.addSheet(), 1);
            are(unit(x, 0), 0, 0, 1, 0, 10, 30, 0, 0, NONE, 0, 0, 0);
        });
        edge("promise 20", "the greatest of everything", () -> {
            UnitKitchens x = places();
            for (int i = 4; i < 8; i++) {
                x.addPlace(i, i);
            }
            type(x, "7:300g300@600+600");
            is(x.addSheet(), 1);
            are(unit(x, 0), 0, 7, 300, 300, 600, 600, 0, 0, NONE, 0, 0, 0);
        });
        edge("promise 20", "no greens, told and not told", () -> {
            UnitKitchens x = typed("1:20g0@45+50,1:20@45+50");
            is(x.addSheet(), 2);
            are(unit(x, 0), 0, 1, 20, 0, 45, 50, 0, 0, NONE, 0, 0, 0);
            are(unit(x, 1), 0, 1, 20, 0, 45, 50, 0, 0, NONE, 0, 0, 0);
        });
        edge("promise 20", "greens of one unit are not those of the next", () -> {
            UnitKitchens x = typed("1:20g7@45+50,1:20@45+50");
            x.addSheet();
            is(x.unit(0, 3), 7);
            is(x.unit(1, 3), 0);
        });
        edge("promise 20", "a full buffer that is complete", () -> {
            UnitKitchens x = typed(SIXTY);
            is(x.addSheet(), 6);
            are(unit(x, 5), 0, 0, 100, 100, 1, 600, 0, 0, NONE, 0, 0, 0);
            is(x.clearBuffer(), 0);
        });
        edge("promise 20", "in the last minute", () -> {
            UnitKitchens x = atMinute(20000);
            type(x, "0:1@600+30");
            is(x.addSheet(), 1);
            is(x.unit(0, 4), 20600);
        });
    }

    /** The sheet adds so many units to the places, and clears the buffer. */
    private static void adds(String text, int due) {
        UnitKitchens x = typed(text);
        is(x.addSheet(), due);
        is(x.count(3), due);
        is(x.clearBuffer(), 0);
        is(x.count(16), 5);
    }

    private static void sheetsThatStop() {
        edge("promise 20", "the last place is taken, at one that does not exist it stops", () -> {
            adds("3:1@1+30", 1);
            adds("4:1@1+30", 0);
            adds("7:1@1+30,0:1@1+30", 0);
            adds("0:1@1+30,4:1@1+30,0:1@1+30", 1);
            adds("0:1@1+30,0:1@1+30,4:1@1+30", 2);
            UnitKitchens x = new UnitKitchens();
            type(x, "0:1@1+30");
            is(x.addSheet(), 0);
            is(x.count(16), 1);
        });
        edge("promise 20", "as many greens as people are taken, at one more it stops", () -> {
            adds("0:4g4@1+30", 1);
            adds("0:4g5@1+30", 0);
            adds("0:299g300@1+30,0:1@1+30", 0);
            adds("0:1@1+30,0:1g2@1+30,0:1@1+30", 1);
            adds("0:1@1+30,0:1g1@1+30,0:1g2@1+30", 2);
        });
        edge("promise 20", "the 12th unit is taken, at a 13th it stops", () -> {
            UnitKitchens x = full();
            type(x, "0:1@1+30");
            is(x.addSheet(), 0);
            is(x.count(3), 12);
            UnitKitchens y = places();
            for (int i = 0; i < 10; i++) {
                y.addUnit(0, 1, 0, 1, 30);
            }
            type(y, "0:2@1+30,0:3@1+30,0:4@1+30");
            is(y.addSheet(), 2);
            is(y.unit(11, 2), 3);
            is(y.clearBuffer(), 0);
        });
        edge("promise 20", "units that have wrapped count among the 12", () -> {
            UnitKitchens x = full();
            x.wrap(0);
            type(x, "0:1@1+30");
            is(x.addSheet(), 0);
        });
    }

    private static void sheetsAndUndo() {
        edge("promise 20", "undoable as one call: six units, one, none", () -> {
            undoable(() -> typed(SIXTY), UnitKitchens::addSheet);
            undoable(() -> typed("0:4@1+30,0:4g5@1+30"), UnitKitchens::addSheet);
            undoable(() -> typed("0:4g5@1+30,0:4@1+30"), UnitKitchens::addSheet);
        });
        edge("promise 20", "undo() does not bring back the buffer", () -> {
            UnitKitchens x = typed(SIXTY);
            x.addSheet();
            x.undo();
            is(x.count(3), 0);
            is(x.clearBuffer(), 0);
        });
    }

    // ---- promise 21

    private static void undo() {
        edge("promise 21", "none saved is refused, at first and when all are undone", () -> {
            refused(STATE, UnitKitchens::new, UnitKitchens::undo);
            refused(STATE, UnitKitchensTextsEdgesTest::allUndone, UnitKitchens::undo);
        });
        edge("promise 21", "six are left, five, down to none; the seventh last change stays", () -> {
            UnitKitchens x = new UnitKitchens();
            for (int i = 0; i < 7; i++) {
                x.addPlace(i, i);
                is(x.count(16), Math.min(6, i + 1));
            }
            for (int left = 5; left >= 0; left--) {
                is(x.undo(), left);
                is(x.count(16), left);
                is(x.count(0), left + 1);
            }
            is(thrownByUndo(x), 1);
            is(x.count(0), 1);
        });
        edge("promise 21", "just six changes are undone down to the first state", () -> {
            UnitKitchens x = new UnitKitchens();
            for (int i = 0; i < 6; i++) {
                x.addPlace(i, i);
            }
            for (int left = 5; left >= 0; left--) {
                is(x.undo(), left);
            }
            is(x.count(0), 0);
            is(allOf(x).equals(allOf(new UnitKitchens())) ? 1 : 0, 1);
        });
        edge("promise 21", "the oldest is dropped first, many times round", () -> {
            UnitKitchens x = new UnitKitchens();
            for (int round = 0; round < 9; round++) {
                for (int i = 0; i < 5; i++) {
                    x.set(5, 100 + 10 * round + i);
                }
                is(x.count(16), round == 0 ? 5 : 6);
                x.undo();
                is(x.setting(5), 100 + 10 * round + 3);
            }
            for (int left = 4; left >= 0; left--) {
                is(x.undo(), left);
            }
            // before the first set of the last round that is not undone there was 173, before that 172
            is(x.setting(5), 172);
            is(thrownByUndo(x), 1);
        });
    }

    private static UnitKitchens allUndone() {
        UnitKitchens x = typed("0:5");
        for (int left = 3; left >= 0; left--) {
            is(x.undo(), left);
        }
        return x;
    }

    private static int thrownByUndo(UnitKitchens x) {
        try {
            x.undo();
            return 0;
        } catch (IllegalStateException e) {
            return 1;
        }
    }

    private static void undoOfAll() {
        edge("Terms, undo", "also what is counted so far", () -> {
            UnitKitchens x = kit();
            x.set(3, 5);
            x.set(1, 0);
            x.addUnit(0, 5, 2, 1, 30);
            x.addUnit(1, 4, 2, 1, 30);
            x.cook(0, 0, 9);
            x.pass(20);
            x.wrap(1);
            int[] due = {9, 5, 4, 9, 4, 4 * 19};
            int[] whats = {7, 8, 9, 12, 14, 15};
            for (int i = 0; i < 6; i++) {
                is(x.count(whats[i]), due[i]);
            }
            x.undo();
            is(x.count(14), 0);
            x.undo();
            for (int what : whats) {
                is(x.count(what), 0);
            }
            is(x.count(6), 0);
            is(x.kitchen(0, 5), 9);
        });
        edge("Terms, undo", "what each kitchen, lorry and unit counted so far", () -> {
            UnitKitchens x = kit();
            x.set(3, 5);
            x.set(1, 0);
            cookAll(x, 0, 0, 9);
            x.load(0, 0, 0, 5);
            x.addUnit(0, 3, 2, 1, 600);
            x.addUnit(1, 4, 2, 1, 600);
            x.cook(0, 1, 20);
            x.pass(9);
            are(kitchen(x, 0), 0, 471, 491, 480, NONE, 0, 0, 0, 0, NONE, 29, 23);
            are(lorry(x, 0), 0, NONE, 0, 0, 0, 0, NONE, 2, 3);
            are(unit(x, 0), 0, 0, 3, 2, 602, 600, 0, 0, NONE, 3, 0, 0);
            are(unit(x, 1), 0, 1, 4, 2, 602, 600, 2, 2, 2, 0, 32, 0);
            x.set(0, 20);
            x.undo();
            are(kitchen(x, 0), 0, 471, 491, 480, NONE, 0, 0, 0, 0, NONE, 29, 23);
            are(lorry(x, 0), 0, NONE, 0, 0, 0, 0, NONE, 2, 3);
            are(unit(x, 1), 0, 1, 4, 2, 602, 600, 2, 2, 2, 0, 32, 0);
            x.wrap(1);
            x.pass(1);
            x.undo();
            are(unit(x, 1), 1, NONE, NONE, NONE, NONE, NONE, NONE, NONE, NONE, 0, 32, 4);
            x.undo();
            x.undo();
            are(kitchen(x, 0), 0, 471, 491, 480, 1, 20, 4, 0, 0, 1, 9, 0);
            are(lorry(x, 0), 0, NONE, 0, 5, 0, 0, 1, 0, 0);
            are(unit(x, 0), 0, 0, 3, 2, 2, 600, 0, 0, NONE, 0, 0, 0);
            are(unit(x, 1), 0, 1, 4, 2, 2, 600, 0, 0, NONE, 0, 0, 0);
        });
        edge("Terms, undo", "a call that changes nothing is saved: each that can change nothing", () -> {
            UnitKitchens x = new UnitKitchens();
            x.addPlace(0, 0);
            x.addKitchen(0);
            x.addLorry(0);
            x.addUnit(0, 1, 0, 1, 30);
            x.set(0, 10);
            is(x.count(16), 5);
            x.undo();
            x.move(0, 0);
            is(x.count(16), 5);
            x.undo();
            x.unload(0, 0);
            is(x.count(16), 5);
            x.undo();
            type(x, "1:1@1+30");
            is(x.addSheet(), 0);
            is(x.count(16), 5);
        });
        edge("Terms, undo", "what throws, what tells and what changes the buffer saves nothing", () -> {
            UnitKitchens x = busy();
            x.append('1');
            x.firstError();
            x.clearBuffer();
            x.digest();
            x.servedShare();
            is(x.count(16), 5);
            is(thrownByUndo(new UnitKitchens()), 1);
        });
        edge("Terms, undo", "undo() itself cannot be undone", () -> {
            UnitKitchens x = new UnitKitchens();
            x.set(0, 20);
            x.set(0, 30);
            x.undo();
            x.undo();
            is(x.setting(0), 10);
            is(x.count(16), 0);
        });
    }

    private static void undoAndBuffer() {
        edge("Terms, undo", "all but the buffer: an empty one and a full one stay as they are", () -> {
            UnitKitchens x = typed(repeated('!', 60));
            x.undo();
            is(x.clearBuffer(), 60);
            x.set(0, 20);
            x.undo();
            is(x.clearBuffer(), 0);
            type(x, "0:5");
            x.set(0, 20);
            x.clearBuffer();
            type(x, "7");
            x.undo();
            is(x.clearBuffer(), 1);
        });
    }
}
