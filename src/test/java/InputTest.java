/** Promises 26 and 27, and the texts of promise 3: feed, errorPosition. */
public final class InputTest {
    private static final String TWO = """
        harvest 10 0 0 9999 = 0
        harvest 20 1 1 9999 = 1
        harvest 20 1 1 9999 = 2
        harvest 20 1 1 9999 = 3
        """;

    public static void main(String[] args) {
        feed();
        errorPosition();
        errorPositions();
        texts();
        undoLeavesTheInput();
        Script.end();
    }

    private static void feed() {
        StringBuilder forty = new StringBuilder();
        for (int length = 1; length <= 40; length++) {
            forty.append("feed ").append(length * 1600).append(" = ").append(length).append("\n");
        }
        Script.play("26 feed", forty + """
            account 11 = 40
            feed 48 ! ISE
            feed 0 ! ISE
            account 11 = 40
            reason ! NSEE
            errorPosition ! NSEE
            account 10 = 0
            blend ! IAE
            errorPosition = 0
            feed 65535 = 1
            feed 0 = 2
            """);
    }

    private static void errorPosition() {
        Script.play("27 errorPosition", TWO + """
            errorPosition ! NSEE
            type 0:1+x
            blend ! IAE
            errorPosition = 4
            errorPosition = 4
            type 0:1+1:1
            blend = 4
            errorPosition = 4
            type 0:0+1:1
            blend ! IAE
            type 0:1+0:1
            blend ! ISE
            errorPosition = 4
            blend ! IAE
            errorPosition = 0
            undo = 4
            save = 4
            restore = 4
            errorPosition = 0
            """);
    }

    private static void errorPositions() {
        String[] texts = {
            "0", "1", "00:1+1:1", "1", "01:1+1:1", "1", "x", "0", ":", "0", "+", "0",
            "0:", "2", "0:x", "2", "0:+", "2", "0:1", "3", "0:1:", "3", "0:1x", "3", "0:1+", "4",
            "0:1+1", "5", "0:1+1:", "6", "0:1++", "4", "0:1+1+", "5", "0:1+1:1+", "8",
            "0:01+1:1", "3", "0:00+1:1", "3", "0:1+1:00", "7",
            "12345:1+1:1", "4", "1234", "4", "1234:12345+0:1", "9", "0:12345", "6",
            "0:1+1:1+2:1+3:1+", "15", "0:1+1:1+2:1+3:1+4:1", "15", "0:1+1:1+2:1+3:1x", "15",
            "0:1+1:1+2:1+3:", "14",
            "9999:9999+9999:9999+9999:9999+9999:9999+", "39", "9999:9999+9999:9999+9999:9999+9999:99999", "39",
            "0:1+1:1x", "7", "0:1+1:1:", "7", "-1:1+1:1", "0", "0:-1+1:1", "2", "0:1-1:1", "3", "0/1", "1",
            "0:1+1:1;", "7",
            "/:1", "0", ";:1", "0", "0:/", "2", "1:1+\u0660:1", "4",
        };
        for (int i = 0; i < texts.length; i += 2) {
            Script.play("3 and 27 error positions", TWO + "type " + texts[i] + "\nblend ! IAE\nerrorPosition = "
                + texts[i + 1] + "\naccount 11 = 0\naccount 10 = 4\n");
        }
        Script.play("27 what was read before is gone", TWO + """
            type 0:1+1:1+2:3333
            blend = 4
            type 0
            blend ! IAE
            errorPosition = 1
            type 0:
            blend ! IAE
            errorPosition = 2
            type 0:1
            blend ! IAE
            errorPosition = 3
            type 0:1+1:1+2:3
            blend = 5
            part 5 2 1 = 3
            type 0:1+1:1
            blend = 6
            lot 6 2 = 2
            lot 6 0 = 2
            """);
        Script.play("27 blanks and line ends are errors, too", TWO + """
            feed 32 = 1
            blend ! IAE
            errorPosition = 0
            type 0:1+1:1
            feed 10 = 8
            blend ! IAE
            errorPosition = 7
            type 0:1+1:1
            feed 0 = 8
            blend ! IAE
            errorPosition = 7
            type 0
            feed 0 = 2
            blend ! IAE
            errorPosition = 1
            """);
    }

    private static void texts() {
        Script.play("3 texts without an error", TWO + """
            type 0:9990+1:9+2:10+3:1000
            blend = 4
            lot 4 0 = 11009
            part 4 0 1 = 9990
            part 4 1 1 = 9
            part 4 2 1 = 10
            part 4 3 1 = 1000
            # lots that there are not are no error of the text
            type 9999:9999+9999:9999+9999:9999+9999:9999
            account 11 = 39
            blend ! ISE
            reason = 1
            type 1234:1+0:1
            blend ! ISE
            type 0:1+1000:1
            blend ! ISE
            errorPosition ! NSEE
            type 4:11000+0:1
            blend ! IAE
            errorPosition = 6
            """);
        StringBuilder lots = new StringBuilder(TWO);
        for (int lot = 4; lot < 12; lot++) {
            lots.append("type ").append(lot - 4).append(":3+").append(lot - 3).append(":3\n");
            lots.append("blend = ").append(lot).append("\n");
        }
        Script.play("3 lots with two digits", lots + """
            type 10:1+0:1
            blend = 12
            part 12 0 0 = 10
            type 11:2+10:2+0:2
            blend = 13
            part 13 0 0 = 11
            part 13 1 0 = 10
            """);
    }

    private static void undoLeavesTheInput() {
        Script.play("28 and 30 the input does not go back", TWO + """
            type 0:1+
            undo = 3
            account 11 = 4
            save = 3
            type 1:1
            restore = 3
            account 11 = 7
            blend = 3
            undo = 0
            account 11 = 0
            """);
    }
}
