/** Promises 21 to 25: recalled, recalledAgain, bottlesOf, ways, account. */
public final class RecallsTest {
    /** Lot 4 is 0 and 1, lot 5 is 4 and 0, lot 6 is 5, 4 and 2; lot 3 is in none. */
    private static final String BLENDED = """
        harvest 10 0 0 9999 = 0
        harvest 20 1 1 9999 = 1
        harvest 30 2 2 9999 = 2
        harvest 40 3 3 9999 = 3
        type 0:100+1:100
        blend = 4
        type 4:50+0:100
        blend = 5
        type 5:60+4:50+2:1
        blend = 6
        """;
    private static final String BOTTLED = BLENDED + """
        bottle 0 1 -1 -1 -1 -1 = 0
        bottle 4 2 -1 -1 -1 -1 = 1
        bottle 5 4 -1 -1 -1 -1 = 2
        bottle 6 8 -1 -1 -1 -1 = 3
        bottle 3 16 -1 -1 -1 -1 = 4
        bottle 6 5 -1 -1 -1 -1 = 5
        """;

    public static void main(String[] args) {
        recalled();
        bottlesOf();
        ways();
        accounts();
        Script.end();
    }

    private static void recalled() {
        StringBuilder lines = new StringBuilder(BOTTLED);
        for (String call : new String[] {"recalled", "recalledAgain"}) {
            lines.append(call).append(" 0 = 47\n");
            lines.append(call).append(" 1 = 46\n");
            lines.append(call).append(" 2 = 40\n");
            lines.append(call).append(" 3 = 16\n");
            lines.append(call).append(" 4 = 46\n");
            lines.append(call).append(" 5 = 44\n");
            lines.append(call).append(" 6 = 40\n");
            lines.append(call).append(" 7 ! IOOBE\n");
            lines.append(call).append(" -1 ! IOOBE\n");
        }
        Script.play("21 and 22 recalled by both ways", lines.toString());
        Script.play("21 and 22 empty lots and bottlings without stock are recalled", """
            harvest 10 0 0 30 = 0
            harvest 20 1 1 9999 = 1
            type 0:3+1:9000
            blend = 2
            # lot 2 has a share of 0 of harvest 0
            share 2 0 0 = 0
            bottle 2 3001 -1 -1 -1 -1 = 0
            bottle 0 9 -1 -1 -1 -1 = 1
            lot 2 1 = 0
            lot 0 1 = 0
            recalled 0 = 3
            recalledAgain 0 = 3
            recalled 2 = 1
            recalledAgain 2 = 1
            addCustomer 0 = 0
            wish 0 0 3333 = 0
            serve 0 = 3001
            recalled 0 = 3
            recalledAgain 0 = 3
            recalled 1 = 1
            """);
    }

    private static void bottlesOf() {
        Script.play("23 bottlesOf", BOTTLED + """
            bottlesOf 0 -1 = 20
            bottlesOf 1 -1 = 19
            bottlesOf 2 -1 = 13
            bottlesOf 3 -1 = 16
            bottlesOf 6 -1 = 13
            addCustomer 0 = 0
            addCustomer 1 = 1
            wish 0 0 1 = 0
            wish 0 3 3 = 0
            wish 0 4 7 = 0
            wish 1 1 2 = 0
            wish 1 5 1 = 0
            serve 0 = 1
            serve 1 = 2
            serve 3 = 3
            serve 4 = 7
            serve 5 = 1
            bottlesOf 0 -1 = 13
            bottlesOf 0 0 = 4
            bottlesOf 0 1 = 3
            bottlesOf 4 0 = 3
            bottlesOf 4 1 = 3
            bottlesOf 4 -1 = 13
            bottlesOf 2 1 = 1
            bottlesOf 3 0 = 7
            bottlesOf 3 1 = 0
            bottlesOf 3 -1 = 9
            bottlesOf 7 0 ! IOOBE
            bottlesOf -1 -1 ! IOOBE
            bottlesOf 0 2 ! IOOBE
            bottlesOf 0 -2 ! IOOBE
            """);
    }

    private static void ways() {
        Script.play("24 ways", BLENDED + """
            ways 0 0 = 1
            ways 6 6 = 1
            ways 0 4 = 1
            ways 0 5 = 2
            ways 0 6 = 3
            ways 1 5 = 1
            ways 1 6 = 2
            ways 2 6 = 1
            ways 4 5 = 1
            ways 4 6 = 2
            ways 5 6 = 1
            ways 3 6 = 0
            ways 6 0 = 0
            ways 5 4 = 0
            ways 2 5 = 0
            ways 0 3 = 0
            ways 7 0 ! IOOBE
            ways 0 7 ! IOOBE
            ways -1 0 ! IOOBE
            ways 0 -1 ! IOOBE
            undo = 6
            ways 0 6 ! IOOBE
            ways 0 5 = 2
            """);
    }

    private static void accounts() {
        Script.play("25 account", BOTTLED + """
            account 0 = 39996
            account 1 = 39888
            account 2 = 108
            account 3 = 0
            account 4 = 36
            account 5 = 0
            account 6 = 7
            account 7 = 4
            account 8 = 6
            account 9 = 0
            account 10 = 8
            account 11 = 0
            type 12
            account 11 = 2
            spill 5 3 = 75
            spill 3 1 = 9950
            account 0 = 39996
            account 1 = 39884
            account 3 = 4
            addCustomer 0 = 0
            addCustomer 0 = 1
            wish 0 4 9 = 0
            wish 1 4 3 = 0
            wish 1 3 1 = 0
            serve 4 = 12
            serve 3 = 1
            account 4 = 23
            account 5 = 13
            account 2 = 108
            account 9 = 2
            giveBack 0 4 9 = 0
            account 4 = 32
            account 5 = 4
            account 2 = 108
            account 12 ! IAE
            account -1 ! IAE
            account 2147483647 ! IAE
            """);
    }
}
