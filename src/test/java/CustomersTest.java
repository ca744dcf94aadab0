/** Promises 15 to 20: addCustomer, wish, serve, giveBack, holds, listed. */
public final class CustomersTest {
    private static final String BOTTLED = """
        harvest 10 0 0 9999 = 0
        bottle 0 100 -1 -1 -1 -1 = 0
        bottle 0 50 -1 -1 -1 -1 = 1
        """;
    private static final String FOUR = BOTTLED + """
        addCustomer 2 = 0
        addCustomer 0 = 1
        addCustomer 1 = 2
        addCustomer 0 = 3
        """;

    public static void main(String[] args) {
        addCustomer();
        wish();
        serveByPortions();
        serveByRounds();
        serveLittle();
        serveMuch();
        giveBack();
        holds();
        listed();
        Script.end();
    }

    private static void addCustomer() {
        Script.play("15 addCustomer", """
            addCustomer 3 ! IAE
            addCustomer -1 ! IAE
            account 9 = 0
            account 10 = 0
            addCustomer 0 = 0
            addCustomer 1 = 1
            addCustomer 2 = 2
            addCustomer 2 = 3
            addCustomer 2 = 4
            addCustomer 1 = 5
            addCustomer 0 = 6
            account 9 = 7
            addCustomer 0 = 7
            addCustomer 0 ! ISE
            addCustomer 3 ! IAE
            reason ! NSEE
            account 9 = 8
            account 10 = 8
            undo = 7
            addCustomer 1 = 7
            """);
    }

    private static void wish() {
        Script.play("16 wish", FOUR + """
            wish 0 0 0 = 0
            wish 0 0 3333 = 0
            wish 0 0 7 = 3333
            wish 0 0 7 = 7
            wish 0 1 5 = 0
            wish 1 0 6 = 0
            holds 0 0 1 = 7
            holds 0 1 1 = 5
            holds 1 0 1 = 6
            holds 1 1 1 = 0
            account 10 = 8
            serve 0 = 13
            # what the customer holds stays, and the wish may be less
            wish 0 0 2 = 7
            holds 0 0 0 = 7
            holds 0 0 1 = 2
            bottling 0 7 = 0
            serve 0 = 0
            holds 0 0 0 = 7
            wish 4 0 1 ! IOOBE
            wish -1 0 1 ! IOOBE
            wish 0 2 1 ! IOOBE
            wish 0 -1 1 ! IOOBE
            wish 4 2 -1 ! IOOBE
            wish 0 2 -1 ! IOOBE
            wish 0 0 -1 ! IAE
            wish 0 0 3334 ! IAE
            holds 0 0 1 = 2
            """);
    }

    private static void serveByPortions() {
        String[] portions = {"0 12", "1 6", "2 3"};
        for (String portion : portions) {
            String[] two = portion.split(" ");
            // The next bottle goes to the other customer, who comes later on the list.
            Script.play("17 the portion of the class " + two[0], """
                harvest 10 0 0 9999 = 0
                bottle 0 PORTION -1 -1 -1 -1 = 0
                bottle 0 1 -1 -1 -1 -1 = 1
                bottle 0 99 -1 -1 -1 -1 = 2
                addCustomer KIND = 0
                addCustomer 2 = 1
                wish 0 0 99 = 0
                wish 1 0 99 = 0
                serve 0 = PORTION
                holds 0 0 0 = PORTION
                holds 1 0 0 = 0
                wish 0 2 PORTION = 0
                wish 1 2 1 = 0
                serve 2 = SUM
                holds 0 2 2 = -1
                holds 1 2 0 = 1
                """.replace("PORTION", two[1]).replace("KIND", two[0])
                .replace("SUM", String.valueOf(Integer.parseInt(two[1]) + 1)));
        }
        Script.play("17 no more than the portion", """
            harvest 10 0 0 9999 = 0
            bottle 0 13 -1 -1 -1 -1 = 0
            bottle 0 7 -1 -1 -1 -1 = 1
            bottle 0 4 -1 -1 -1 -1 = 2
            addCustomer 0 = 0
            addCustomer 1 = 1
            addCustomer 2 = 2
            addCustomer 2 = 3
            wish 0 0 99 = 0
            wish 1 0 99 = 0
            serve 0 = 13
            holds 1 0 0 = 1
            wish 1 1 99 = 0
            wish 2 1 99 = 0
            serve 1 = 7
            holds 2 1 0 = 1
            wish 2 2 99 = 0
            wish 3 2 99 = 0
            serve 2 = 4
            holds 3 2 0 = 1
            """);
        Script.play("17 the portions", """
            harvest 10 0 0 9999 = 0
            bottle 0 21 -1 -1 -1 -1 = 0
            bottle 0 22 -1 -1 -1 -1 = 1
            addCustomer 2 = 0
            addCustomer 1 = 1
            addCustomer 0 = 2
            wish 0 0 30 = 0
            wish 1 0 30 = 0
            wish 2 0 30 = 0
            serve 0 = 21
            holds 0 0 0 = 3
            holds 1 0 0 = 6
            holds 2 0 0 = 12
            bottling 0 2 = 0
            wish 0 1 30 = 0
            wish 1 1 30 = 0
            wish 2 1 30 = 0
            # the bottle of the second round goes to the class 0
            serve 1 = 22
            holds 0 1 0 = 3
            holds 1 1 0 = 6
            holds 2 1 0 = 13
            serve 1 = 0
            account 10 = 8
            """);
    }

    private static void serveByRounds() {
        Script.play("17 rounds", FOUR + """
            wish 0 0 7 = 0
            wish 1 0 13 = 0
            wish 2 0 100 = 0
            wish 3 0 40 = 0
            # 12 12 6 3, then 1 12 6 3, then 12 6 1, then 4 6, then 6, 6, 4
            serve 0 = 100
            holds 0 0 0 = 7
            holds 1 0 0 = 13
            holds 2 0 0 = 40
            holds 3 0 0 = 40
            bottling 0 2 = 0
            bottling 0 7 = 1
            account 4 = 50
            account 5 = 100
            # the other bottling is not touched
            bottling 1 2 = 50
            holds 2 1 0 = 0
            """);
    }

    private static void serveLittle() {
        Script.play("17 when bottles run out in a round", """
            harvest 10 0 0 9999 = 0
            bottle 0 13 -1 -1 -1 -1 = 0
            addCustomer 1 = 0
            addCustomer 0 = 1
            addCustomer 1 = 2
            wish 0 0 5 = 0
            wish 1 0 10 = 0
            wish 2 0 5 = 0
            serve 0 = 13
            holds 1 0 0 = 10
            holds 0 0 0 = 3
            holds 2 0 0 = 0
            holds 2 0 2 = 1
            serve 1 ! IOOBE
            serve -1 ! IOOBE
            account 10 = 8
            undo = 7
            bottling 0 2 = 13
            holds 0 0 0 = 0
            holds 1 0 0 = 0
            """);
        Script.play("17 nobody on the list", BOTTLED + """
            serve 0 = 0
            account 10 = 4
            addCustomer 0 = 0
            serve 0 = 0
            account 10 = 6
            bottling 0 2 = 100
            wish 0 0 60 = 0
            serve 0 = 60
            bottling 0 2 = 40
            serve 0 = 0
            wish 0 0 70 = 60
            serve 0 = 10
            """);
    }

    private static void serveMuch() {
        Script.play("17 as many rounds as needed", """
            harvest 10 0 0 9999 = 0
            bottle 0 3333 -1 -1 -1 -1 = 0
            addCustomer 2 = 0
            addCustomer 2 = 1
            wish 0 0 3333 = 0
            serve 0 = 3333
            holds 0 0 0 = 3333
            giveBack 0 0 3333 = 0
            wish 0 0 3333 = 0
            wish 1 0 3333 = 0
            serve 0 = 3333
            holds 0 0 0 = 1668
            holds 1 0 0 = 1665
            """);
    }

    private static void giveBack() {
        Script.play("18 giveBack", FOUR + """
            wish 0 0 10 = 0
            wish 1 0 5 = 0
            serve 0 = 15
            giveBack 0 0 4 = 6
            holds 0 0 0 = 6
            holds 0 0 1 = 6
            bottling 0 2 = 89
            bottling 0 7 = 0
            # a wish that is not greater stays
            wish 0 0 2 = 6
            giveBack 0 0 3 = 3
            holds 0 0 1 = 2
            giveBack 0 0 1 = 2
            holds 0 0 1 = 2
            wish 0 0 9 = 2
            giveBack 0 0 2 = 0
            holds 0 0 1 = 0
            holds 1 0 0 = 5
            account 5 = 5
            account 4 = 145
            giveBack 0 0 1 ! IAE
            giveBack 1 0 6 ! IAE
            giveBack 1 0 0 ! IAE
            giveBack 1 0 -1 ! IAE
            giveBack 1 0 3334 ! IAE
            giveBack 4 0 1 ! IOOBE
            giveBack -1 0 1 ! IOOBE
            giveBack 0 2 1 ! IOOBE
            giveBack 0 -1 1 ! IOOBE
            giveBack 0 2 0 ! IOOBE
            giveBack 4 0 0 ! IOOBE
            holds 1 0 1 = 5
            bottling 0 2 = 95
            giveBack 1 0 5 = 0
            account 10 = 8
            """);
    }

    private static void holds() {
        Script.play("19 holds", FOUR + """
            wish 0 0 4 = 0
            wish 1 0 6 = 0
            wish 2 0 5 = 0
            wish 3 0 7 = 0
            holds 1 0 2 = 0
            holds 3 0 2 = 1
            holds 2 0 2 = 2
            holds 0 0 2 = 3
            holds 0 1 2 = -1
            wish 1 0 0 = 6
            holds 1 0 2 = -1
            holds 3 0 2 = 0
            holds 0 0 2 = 2
            serve 0 = 16
            holds 0 0 0 = 4
            holds 0 0 1 = 4
            holds 0 0 2 = -1
            holds 3 0 0 = 7
            holds 4 0 0 ! IOOBE
            holds -1 0 0 ! IOOBE
            holds 0 2 0 ! IOOBE
            holds 0 -1 0 ! IOOBE
            holds 4 0 3 ! IOOBE
            holds 0 2 3 ! IOOBE
            holds 0 0 3 ! IAE
            holds 0 0 -1 ! IAE
            """);
    }

    private static void listed() {
        Script.play("20 listed", FOUR + """
            listed 0 0 ! NSEE
            wish 0 0 4 = 0
            wish 1 0 6 = 0
            wish 2 0 5 = 0
            wish 3 0 7 = 0
            wish 2 1 1 = 0
            listed 0 0 = 1
            listed 0 1 = 3
            listed 0 2 = 2
            listed 0 3 = 0
            listed 0 4 ! NSEE
            listed 0 -1 ! NSEE
            listed 1 0 = 2
            listed 1 1 ! NSEE
            listed 2 0 ! IOOBE
            listed -1 0 ! IOOBE
            listed 2 -1 ! IOOBE
            wish 1 0 0 = 6
            listed 0 0 = 3
            listed 0 2 = 0
            listed 0 3 ! NSEE
            bottling 0 7 = 3
            """);
    }
}
