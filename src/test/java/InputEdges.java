/** The edges of the promises 26 and 27, and of the texts of promise 3, each in a script of its own. */
final class InputEdges {
    private static final String TWO = """
        harvest 10 0 0 9999 = 0
        harvest 20 1 1 9999 = 1
        """;
    private static final String FORTY = "type 0123456789012345678901234567890123456789\n";

    private InputEdges() {
    }

    static void playAll() {
        feed();
        feedBehindReading();
        textsWithoutErrors();
        errorsInTexts();
        textsThatEndTooEarly();
        errorPosition();
    }

    private static void feed() {
        Script.playAll("", """
            == 26 the first character
            feed 48 = 1
            account 11 = 1
            == 26 the 40th character finds room, the 41st does not
            type 012345678901234567890123456789012345678
            feed 48 = 40
            feed 48 ! ISE
            account 11 = 40
            == 26 the characters 0 and 65535 are right
            feed 0 = 1
            feed 65535 = 2
            == 26 signs, blanks, line ends and signs beyond 127 are right
            feed 43 = 1
            feed 58 = 2
            feed 32 = 3
            feed 10 = 4
            feed 13 = 5
            feed 127 = 6
            feed 255 = 7
            feed 256 = 8
            feed 55296 = 9
            == 26 feeding is no change
            feed 48 = 1
            account 10 = 0
            undo ! ISE
            == 26 feeding keeps no error position
            feed 120 = 1
            errorPosition ! NSEE
            """);
        Script.playAll(FORTY, """
            == 26 no reason is kept
            feed 48 ! ISE
            reason ! NSEE
            == 26 a full input keeps no error position
            feed 48 ! ISE
            errorPosition ! NSEE
            == 26 a full input stays as it was
            feed 49 ! ISE
            feed 0 ! ISE
            feed 65535 ! ISE
            account 11 = 40
            account 10 = 0
            == 26 what did not find room is not read
            feed 120 ! ISE
            blend ! IAE
            errorPosition = 1
            feed 48 = 1
            """);
        Script.playAll(TWO, """
            == 26 the 40th character is read
            type 0:1000+1:1000+0:1000+1:1000+0:1000+1:1
            account 11 = 38
            blend ! IAE
            errorPosition = 27
            type 1000:1000+1000:1000+1000:1000+1000:1000
            account 11 = 39
            feed 43 = 40
            blend ! IAE
            errorPosition = 39
            == 26 the 41st character does not harm the text
            type 1000:1000+1000:1000+1000:1000+1000:10000
            feed 48 ! ISE
            blend ! IAE
            errorPosition = 39
            """);
    }

    private static void feedBehindReading() {
        Script.playAll(TWO, """
            == 26 there is room again behind a blend
            mix 0:1+1:1 = 2
            feed 48 = 1
            == 26 there is room again behind an error
            type 0123456789012345678901234567890123456789
            feed 48 ! ISE
            blend ! IAE
            feed 48 = 1
            == 26 there is room again behind 0 quarters
            mix 0:0+1:1 ! IAE
            feed 48 = 1
            == 26 there is room again behind a refusal
            mix 0:1+0:1 ! ISE
            feed 48 = 1
            == 26 other calls leave the input
            type 0:1+
            harvest 30 2 2 10 = 2
            spill 2 1 = 9
            spill 2 10 ! IAE
            bottle 2 1 -1 -1 -1 -1 = 0
            bottle 2 9 -1 -1 -1 -1 ! ISE
            setLaw 0 500 = 850
            addCustomer 0 = 0
            wish 0 0 1 = 0
            serve 0 = 1
            giveBack 0 0 1 = 0
            save = 3
            undo = 7
            restore = 3
            account 11 = 4
            mix 1:1 = 3
            """);
    }

    private static void textsWithoutErrors() {
        Script.playAll(TWO + """
            harvest 30 2 2 9999 = 2
            harvest 40 3 3 9999 = 3
            """, """
            == 3 the shortest text
            mix 0:1+1:1 = 4
            == 3 numbers of 1 to 4 digits
            mix 0:1+1:12+2:123+3:1234 = 4
            part 4 0 1 = 1
            part 4 1 1 = 12
            part 4 2 1 = 123
            part 4 3 1 = 1234
            == 3 zeros behind the first digit
            mix 0:1000+1:10+2:100+3:9009 = 4
            part 4 0 1 = 1000
            part 4 1 1 = 10
            part 4 2 1 = 100
            part 4 3 1 = 9009
            == 3 the longest text
            mix 9999:9999+9999:9999+9999:9999+9999:9999 ! ISE
            reason = 1
            errorPosition ! NSEE
            == 3 the lot 0
            mix 0:1+1:1 = 4
            part 4 0 0 = 0
            == 3 a number of quarters that is 0 is no error of the text
            mix 0:0+1:0 ! IAE
            errorPosition ! NSEE
            == 3 lots with two digits
            times 8 harvest 0 0 0 9
            mix 10:1+11:1 = 12
            part 12 0 0 = 10
            part 12 1 0 = 11
            """);
    }

    private static void errorsInTexts() {
        String[] texts = {
            "0 1 1 part is too few", "0:1 3", "0 1 5 parts are too many", "0:1+1:1+2:1+3:1+0:1 15",
            "a lot with 5 digits", "12345:1+1:1 4", "quarters with 5 digits", "0:12345+1:1 6",
            "a lot that begins with 0", "01:1+1:1 1", "quarters that begin with 0", "0:01+1:1 3",
            "two zeros for a lot", "00:1+1:1 1", "two zeros for quarters", "0:00+1:1 3",
            "a later lot that begins with 0", "0:1+01:1 5", "later quarters that begin with 0", "0:1+1:01 7",
            "a sign ahead of a lot", "+0:1+1:1 0", "a minus ahead of a lot", "-1:1+1:1 0",
            "a minus ahead of quarters", "0:-1+1:1 2", "no lot", ":1+1:1 0", "no quarters", "0:+1:1 2",
            "no colon", "0+1:1 1", "two colons", "0::1+1:1 2", "two plus signs", "0:1++1:1 4",
            "a colon instead of a plus sign", "0:1:1:1 3", "a plus sign instead of a colon", "0+1+1:1 1",
            "a letter instead of a lot", "x:1+1:1 0", "a letter instead of quarters", "0:x+1:1 2",
            "a letter in a number", "1x:1+1:1 1", "a letter behind the text", "0:1+1:1x 7",
            "a colon behind the text", "0:1+1:1: 7", "a plus sign behind 4 parts", "0:1+1:1+2:1+3:1+ 15",
            "a letter behind 4 parts", "0:1+1:1+2:1+3:1x 15", "the sign ahead of 0", "/:1+1:1 0",
            "the sign behind 9", "0:1+1:1; 7", "the sign behind 9 instead of a number", "0:;+1:1 2",
            "the sign ahead of 0 instead of a number", "0:1+1:/ 6", "a digit that is no ASCII one", "0:1+\u0661:1 4",
            "a colon that is no ASCII one", "0\uff1a1+1:1 1", "the first of two errors", "0:1x+01:1 3",
            "a digit behind the longest text", "9999:9999+9999:9999+9999:9999+9999:99999 39",
        };
        for (int i = 0; i < texts.length; i += 2) {
            String[] two = texts[i + 1].split(" ");
            Script.play("27 " + texts[i], TWO + "mix " + two[0] + " ! IAE\nerrorPosition = " + two[1]
                + "\naccount 11 = 0\naccount 10 = 2\nreason ! NSEE\n");
        }
        Script.playAll(TWO, """
            == 27 a blank ahead of the text
            feed 32 = 1
            mix 0:1+1:1 ! IAE
            errorPosition = 0
            == 27 a blank behind the text
            type 0:1+1:1
            feed 32 = 8
            blend ! IAE
            errorPosition = 7
            == 27 a line end behind the text
            type 0:1+1:1
            feed 10 = 8
            blend ! IAE
            errorPosition = 7
            == 27 the character 0 behind the text
            type 0:1+1:1
            feed 0 = 8
            blend ! IAE
            errorPosition = 7
            == 27 the character 65535 instead of a number
            type 0:
            feed 65535 = 3
            blend ! IAE
            errorPosition = 2
            == 27 the character 65535 behind the text
            type 0:1+1:1
            feed 65535 = 8
            blend ! IAE
            errorPosition = 7
            == 27 characters whose low bits are those of a digit, a colon and a plus sign
            feed 304 = 1
            blend ! IAE
            errorPosition = 0
            type 0
            feed 314 = 2
            blend ! IAE
            errorPosition = 1
            type 0:1
            feed 299 = 4
            blend ! IAE
            errorPosition = 3
            """);
    }

    private static void textsThatEndTooEarly() {
        String whole = "1234:5678+234:678+34:78+4:8";
        for (int length = 0; length <= whole.length(); length++) {
            boolean one = length <= whole.indexOf('+');
            String text = whole.substring(0, length);
            boolean isBlend = !one && text.substring(text.lastIndexOf('+')).contains(":") && !text.endsWith(":");
            String type = length == 0 ? "" : "type " + text + "\n";
            Script.play("27 the text ends behind " + length + " characters", TWO + type
                + (isBlend ? "blend ! ISE\nreason = 1\nerrorPosition ! NSEE\n"
                    : "blend ! IAE\nerrorPosition = " + length + "\nreason ! NSEE\n") + "account 11 = 0\n");
        }
    }

    private static void errorPosition() {
        Script.playAll(TWO, """
            == 27 no text had an error yet
            errorPosition ! NSEE
            mix 0:1+1:1 = 2
            errorPosition ! NSEE
            == 27 the error position of the empty text is 0
            blend ! IAE
            errorPosition = 0
            == 27 the last error counts
            mix 0:x ! IAE
            mix 0:1+1:1+x ! IAE
            errorPosition = 8
            blend ! IAE
            errorPosition = 0
            == 27 asking does not take it away
            mix 0:x ! IAE
            errorPosition = 2
            errorPosition = 2
            == 27 the error position stays behind a text without an error
            mix 0:x ! IAE
            mix 0:1+1:1 = 2
            errorPosition = 2
            == 27 the error position stays behind 0 quarters
            mix 0:x ! IAE
            mix 0:1+1:0 ! IAE
            errorPosition = 2
            == 27 the error position stays behind a refusal
            mix 0:x ! IAE
            mix 0:1+1:1+2:1 ! ISE
            errorPosition = 2
            == 27 the error position stays behind calls that throw
            mix 0:x ! IAE
            harvest 0 0 0 0 ! IAE
            spill 9 1 ! IOOBE
            bottle 0 1 11 -1 -1 -1 ! ISE
            part 0 0 0 ! NSEE
            errorPosition = 2
            == 27 the error position stays behind undo, save and restore
            mix 0:x ! IAE
            save = 2
            undo = 1
            errorPosition = 2
            restore = 2
            errorPosition = 2
            == 27 0 quarters keep no error position
            mix 0:0+1:1 ! IAE
            errorPosition ! NSEE
            == 27 a refusal keeps no error position
            mix 0:1+0:1 ! ISE
            errorPosition ! NSEE
            == 27 nothing that was read before is read again
            mix 0:1+1:1+0:1+ ! IAE
            mix 0: ! IAE
            errorPosition = 2
            mix 0:1+1:2 = 2
            lot 2 2 = 2
            lot 2 0 = 3
            """);
    }
}
