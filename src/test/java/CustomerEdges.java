/** The edges of the promises 15 to 20, each in a script of its own. */
final class CustomerEdges {
    private static final String BOTTLED = """
        harvest 10 0 0 9999 = 0
        bottle 0 100 -1 -1 -1 -1 = 0
        bottle 0 50 -1 -1 -1 -1 = 1
        """;
    private static final String FOUR = BOTTLED + """
        addCustomer 2 = 0
        addCustomer 0 = 1
        addCustomer 1 = 2
        addCustomer 0 = 3
        """;
    private static final String FULL = """
        harvest 10 0 0 9999 = 0
        times 16 bottle 0 200 -1 -1 -1 -1
        times 8 addCustomer 1
        """;

    private CustomerEdges() {
    }

    static void playAll() {
        addCustomer();
        wish();
        serveNumbers();
        servePortions();
        serveRounds();
        serveOrder();
        giveBack();
        giveBackAndWishes();
        holds();
        listed();
    }

    private static void addCustomer() {
        Script.playAll("", """
            == 15 the class 0 is right, -1 is not
            addCustomer -1 ! IAE
            addCustomer 0 = 0
            == 15 the class 2 is right, 3 is not
            addCustomer 3 ! IAE
            addCustomer 2 = 0
            == 15 the least and the greatest int are no classes
            addCustomer -2147483648 ! IAE
            addCustomer 2147483647 ! IAE
            == 15 the 8th customer finds room, the 9th does not
            times 7 addCustomer 1
            addCustomer 1 = 7
            addCustomer 1 ! ISE
            account 9 = 8
            == 15 no such class comes ahead of 8 customers
            times 8 addCustomer 1
            addCustomer 3 ! IAE
            addCustomer -1 ! IAE
            == 15 no reason is kept
            times 8 addCustomer 1
            addCustomer 1 ! ISE
            reason ! NSEE
            == 15 a call that throws changes nothing
            addCustomer 3 ! IAE
            account 9 = 0
            account 10 = 0
            times 8 addCustomer 1
            addCustomer 1 ! ISE
            account 9 = 8
            account 10 = 8
            undo = 7
            account 9 = 7
            == 15 there is room again behind undo
            times 8 addCustomer 1
            undo = 7
            addCustomer 2 = 7
            addCustomer 2 ! ISE
            """);
        Script.playAll(BOTTLED, """
            == 15 a customer wishes and holds nothing at first
            addCustomer 0 = 0
            holds 0 0 0 = 0
            holds 0 0 1 = 0
            holds 0 0 2 = -1
            holds 0 1 1 = 0
            """);
    }

    private static void wish() {
        Script.playAll(FOUR, """
            == 16 the customer 0 is right, -1 is not
            wish -1 0 1 ! IOOBE
            wish 0 0 1 = 0
            == 16 the customer 3 is right, 4 is not
            wish 4 0 1 ! IOOBE
            wish 3 0 1 = 0
            == 16 the bottling 0 is right, -1 is not
            wish 0 -1 1 ! IOOBE
            wish 0 0 1 = 0
            == 16 the bottling 1 is right, 2 is not
            wish 0 2 1 ! IOOBE
            wish 0 1 1 = 0
            == 16 0 bottles are right, -1 are not
            wish 0 0 -1 ! IAE
            wish 0 0 0 = 0
            == 16 3333 bottles are right, 3334 are not
            wish 0 0 3334 ! IAE
            wish 0 0 3333 = 0
            holds 0 0 1 = 3333
            == 16 no such customer comes ahead of a wrong number
            wish 4 0 3334 ! IOOBE
            wish -1 0 -1 ! IOOBE
            == 16 no such bottling comes ahead of a wrong number
            wish 0 2 3334 ! IOOBE
            wish 0 -1 -1 ! IOOBE
            == 16 neither customer nor bottling
            wish 4 2 1 ! IOOBE
            == 16 the least and the greatest int
            wish -2147483648 0 1 ! IOOBE
            wish 2147483647 0 1 ! IOOBE
            wish 0 -2147483648 1 ! IOOBE
            wish 0 2147483647 1 ! IOOBE
            wish 0 0 -2147483648 ! IAE
            wish 0 0 2147483647 ! IAE
            == 16 more bottles than there are can be wished
            wish 0 1 51 = 0
            serve 1 = 50
            holds 0 1 2 = 0
            == 16 the previous wish of this customer and this bottling
            wish 0 0 7 = 0
            wish 0 1 8 = 0
            wish 1 0 9 = 0
            wish 0 0 0 = 7
            wish 0 1 0 = 8
            wish 1 0 0 = 9
            == 16 a wish below what the customer holds leaves that
            wish 0 0 10 = 0
            serve 0 = 10
            wish 0 0 9 = 10
            holds 0 0 0 = 10
            holds 0 0 2 = -1
            bottling 0 2 = 90
            == 16 the wish 0 leaves what the customer holds
            wish 0 0 10 = 0
            serve 0 = 10
            wish 0 0 0 = 10
            holds 0 0 0 = 10
            == 16 a wish of one more than the customer holds is on the list
            wish 0 0 10 = 0
            serve 0 = 10
            wish 0 0 11 = 10
            holds 0 0 2 = 0
            serve 0 = 1
            == 16 the same wish again is a change
            wish 0 0 0 = 0
            account 10 = 8
            undo = 7
            == 16 a wish that throws changes nothing
            wish 0 0 5 = 0
            wish 0 0 3334 ! IAE
            wish 4 0 6 ! IOOBE
            wish 0 2 6 ! IOOBE
            holds 0 0 1 = 5
            account 10 = 8
            undo = 7
            holds 0 0 1 = 0
            reason ! NSEE
            """);
        Script.playAll(FULL, """
            == 16 the customer 7 and the bottling 15 are right, 8 and 16 are not
            wish 8 15 1 ! IOOBE
            wish 7 16 1 ! IOOBE
            wish 7 15 1 = 0
            holds 7 15 1 = 1
            """);
    }

    private static void serveNumbers() {
        Script.playAll(FOUR, """
            == 17 the bottling 0 is right, -1 is not
            serve -1 ! IOOBE
            serve 0 = 0
            == 17 the bottling 1 is right, 2 is not
            serve 2 ! IOOBE
            serve 1 = 0
            == 17 the least and the greatest int are no bottlings
            serve -2147483648 ! IOOBE
            serve 2147483647 ! IOOBE
            == 17 a call that throws changes nothing
            wish 0 0 5 = 0
            serve 2 ! IOOBE
            account 10 = 8
            account 5 = 0
            undo = 7
            holds 0 0 1 = 0
            == 17 nobody on the list: nothing is given, and it is a change
            undo = 6
            serve 0 = 0
            account 10 = 7
            bottling 0 2 = 100
            == 17 nothing in stock: nothing is given, and it is a change
            wish 0 1 51 = 0
            serve 1 = 50
            undo = 7
            serve 1 = 50
            serve 1 = 0
            account 10 = 8
            holds 0 1 0 = 50
            undo = 7
            holds 0 1 0 = 50
            == 17 only the bottling that is served
            wish 0 0 5 = 0
            wish 0 1 6 = 0
            serve 1 = 6
            holds 0 0 0 = 0
            bottling 0 2 = 100
            """);
        Script.playAll(FULL, """
            == 17 the bottling 15 is right, 16 is not
            wish 7 15 1 = 0
            serve 16 ! IOOBE
            serve 15 = 1
            holds 7 15 0 = 1
            """);
    }

    /** Two customers of a class share out a stock of one portion, and one less, and one more. */
    private static void servePortions() {
        int[] portions = {12, 6, 3};
        for (int kind = 0; kind < portions.length; kind++) {
            int portion = portions[kind];
            String two = "harvest 10 0 0 9999 = 0\ntimes 2 addCustomer " + kind + "\n";
            for (int stock = portion - 1; stock <= 2 * portion + 1; stock++) {
                int first = stock <= 2 * portion ? Math.min(portion, stock) : stock - portion;
                Script.play("17 the portion of the class " + kind + " out of " + stock + " bottles", two
                    + "bottle 0 " + stock + " -1 -1 -1 -1 = 0\nwish 0 0 99 = 0\nwish 1 0 99 = 0\n"
                    + "serve 0 = " + stock + "\nholds 0 0 0 = " + first + "\nholds 1 0 0 = " + (stock - first) + "\n");
            }
            for (int wish = portion - 1; wish <= portion + 1; wish++) {
                int first = Math.min(wish, portion);
                int second = Math.min(portion, portion + 1 - first);
                Script.play("17 the portion of the class " + kind + " for a wish of " + wish, two
                    + "bottle 0 " + (portion + 1) + " -1 -1 -1 -1 = 0\nwish 0 0 " + wish + " = 0\nwish 1 0 99 = 0\n"
                    + "serve 0 = " + (portion + 1) + "\nholds 0 0 0 = " + first + "\nholds 1 0 0 = " + second + "\n");
            }
        }
    }

    private static void serveRounds() {
        Script.playAll(FOUR, """
            == 17 one bottle is missing to the wish
            wish 1 0 1 = 0
            serve 0 = 1
            holds 1 0 0 = 1
            == 17 two rounds: a portion, and what is missing to the wish
            wish 1 0 13 = 0
            serve 0 = 13
            holds 1 0 0 = 13
            bottling 0 2 = 87
            == 17 rounds end when nobody is on the list
            wish 0 0 4 = 0
            wish 1 0 13 = 0
            wish 2 0 7 = 0
            serve 0 = 24
            bottling 0 2 = 76
            bottling 0 7 = 0
            == 17 rounds end when nothing is in stock
            wish 1 1 99 = 0
            serve 1 = 50
            bottling 1 2 = 0
            bottling 1 7 = 1
            == 17 the wish and the stock end together
            wish 1 1 50 = 0
            serve 1 = 50
            bottling 1 2 = 0
            bottling 1 7 = 0
            == 17 the stock is one less than the wish
            wish 1 1 51 = 0
            serve 1 = 50
            holds 1 1 2 = 0
            == 17 the second round goes to those who are still on the list
            wish 1 1 12 = 0
            wish 3 1 20 = 0
            wish 2 1 6 = 0
            wish 0 1 30 = 0
            # 12 12 6 3, then 8 3, then 3, 3: 50 in all
            serve 1 = 50
            holds 1 1 0 = 12
            holds 3 1 0 = 20
            holds 2 1 0 = 6
            holds 0 1 0 = 12
            == 17 who is reached when no bottles are left gets none
            wish 1 1 12 = 0
            wish 3 1 38 = 0
            wish 2 1 5 = 0
            wish 0 1 5 = 0
            # 12 12 5 3, then 12 for the customer 3 and 2 for the customer 0, then 4 for the customer 3
            serve 1 = 50
            holds 1 1 0 = 12
            holds 3 1 0 = 28
            holds 2 1 0 = 5
            holds 0 1 0 = 5
            == 17 the last bottle goes to the first who is on the list
            wish 1 1 49 = 0
            serve 1 = 49
            wish 3 1 5 = 0
            wish 2 1 5 = 0
            serve 1 = 1
            holds 3 1 0 = 1
            holds 2 1 0 = 0
            == 17 who holds as many as wished gets none
            wish 1 0 5 = 0
            serve 0 = 5
            wish 3 0 5 = 0
            serve 0 = 5
            holds 1 0 0 = 5
            holds 3 0 0 = 5
            == 17 who holds more than wished gets none
            wish 1 0 5 = 0
            serve 0 = 5
            wish 1 0 4 = 5
            serve 0 = 0
            holds 1 0 0 = 5
            """);
        Script.playAll("""
            harvest 10 0 0 9999 = 0
            bottle 0 3333 -1 -1 -1 -1 = 0
            addCustomer 2 = 0
            """, """
            == 17 the greatest stock and the greatest wish: 1111 rounds
            wish 0 0 3333 = 0
            serve 0 = 3333
            bottling 0 2 = 0
            bottling 0 7 = 0
            == 17 8 customers share out the greatest stock
            times 7 addCustomer 2
            wish 0 0 3333 = 0
            wish 1 0 3333 = 0
            wish 2 0 3333 = 0
            wish 3 0 3333 = 0
            wish 4 0 3333 = 0
            wish 5 0 3333 = 0
            wish 6 0 3333 = 0
            wish 7 0 3333 = 0
            # 138 rounds of 24 are 3312, and 21 are left for 7 customers
            serve 0 = 3333
            holds 0 0 0 = 417
            holds 6 0 0 = 417
            holds 7 0 0 = 414
            """);
    }

    private static void serveOrder() {
        Script.playAll(FOUR, """
            == 17 the class comes ahead of the number
            wish 0 1 50 = 0
            wish 1 1 50 = 0
            wish 2 1 50 = 0
            wish 3 1 50 = 0
            # 12 12 6 3, then 12 5
            serve 1 = 50
            holds 1 1 0 = 24
            holds 3 1 0 = 17
            holds 2 1 0 = 6
            holds 0 1 0 = 3
            == 17 of the same class the lower number comes first
            wish 3 1 45 = 0
            wish 1 1 45 = 0
            serve 1 = 50
            # 12 12, 12 12, 2
            holds 1 1 0 = 26
            holds 3 1 0 = 24
            == 17 the class comes ahead of who wished first
            wish 0 1 49 = 0
            wish 2 1 49 = 0
            serve 1 = 50
            # 6 3 in 5 rounds, then 5
            holds 2 1 0 = 35
            holds 0 1 0 = 15
            """);
    }

    private static void giveBack() {
        Script.playAll(FOUR + """
            wish 0 0 10 = 0
            serve 0 = 10
            """, """
            == 18 the customer 0 is right, -1 is not
            giveBack -1 0 1 ! IOOBE
            giveBack 0 0 1 = 9
            == 18 the customer 3 is there, 4 is not
            giveBack 4 0 1 ! IOOBE
            giveBack 3 0 1 ! IAE
            == 18 the bottling -1 is not there
            giveBack 0 -1 1 ! IOOBE
            giveBack 0 0 1 = 9
            == 18 the bottling 1 is there, 2 is not
            giveBack 0 2 1 ! IOOBE
            giveBack 0 1 1 ! IAE
            == 18 1 bottle is right, 0 and -1 are not
            giveBack 0 0 0 ! IAE
            giveBack 0 0 -1 ! IAE
            giveBack 0 0 1 = 9
            == 18 all that the customer holds is right, one more is not
            giveBack 0 0 11 ! IAE
            giveBack 0 0 10 = 0
            bottling 0 2 = 100
            == 18 a customer who holds nothing
            giveBack 1 0 1 ! IAE
            giveBack 0 0 10 = 0
            giveBack 0 0 1 ! IAE
            == 18 no such customer comes ahead of a wrong number
            giveBack 4 0 0 ! IOOBE
            giveBack -1 0 3334 ! IOOBE
            == 18 no such bottling comes ahead of a wrong number
            giveBack 0 2 0 ! IOOBE
            giveBack 0 -1 3334 ! IOOBE
            == 18 the least and the greatest int
            giveBack -2147483648 0 1 ! IOOBE
            giveBack 2147483647 0 1 ! IOOBE
            giveBack 0 -2147483648 1 ! IOOBE
            giveBack 0 2147483647 1 ! IOOBE
            giveBack 0 0 -2147483648 ! IAE
            giveBack 0 0 2147483647 ! IAE
            == 18 a call that throws changes nothing
            giveBack 0 0 11 ! IAE
            giveBack 4 0 1 ! IOOBE
            giveBack 0 2 1 ! IOOBE
            holds 0 0 0 = 10
            holds 0 0 1 = 10
            bottling 0 2 = 90
            account 10 = 8
            reason ! NSEE
            undo = 7
            holds 0 0 0 = 0
            """);
        Script.playAll("""
            harvest 10 0 0 9999 = 0
            bottle 0 3333 -1 -1 -1 -1 = 0
            addCustomer 0 = 0
            wish 0 0 3333 = 0
            serve 0 = 3333
            """, """
            == 18 3333 bottles are right, 3334 are not
            giveBack 0 0 3334 ! IAE
            giveBack 0 0 3333 = 0
            bottling 0 2 = 3333
            """);
        Script.playAll(FULL, """
            == 18 the customer 7 and the bottling 15 are right, 8 and 16 are not
            wish 7 15 2 = 0
            serve 15 = 2
            giveBack 8 15 1 ! IOOBE
            giveBack 7 16 1 ! IOOBE
            giveBack 7 15 1 = 1
            """);
    }

    private static void giveBackAndWishes() {
        Script.playAll(FOUR + """
            wish 0 0 10 = 0
            serve 0 = 10
            """, """
            == 18 a wish that is greater than what is still held becomes that
            giveBack 0 0 1 = 9
            holds 0 0 1 = 9
            holds 0 0 2 = -1
            serve 0 = 0
            == 18 a wish that is greater than what was held becomes what is still held
            wish 0 0 3333 = 10
            giveBack 0 0 1 = 9
            holds 0 0 1 = 9
            == 18 a wish that is as great as what is still held stays
            wish 0 0 9 = 10
            giveBack 0 0 1 = 9
            holds 0 0 1 = 9
            == 18 a wish that is less than what is still held stays
            wish 0 0 8 = 10
            giveBack 0 0 1 = 9
            holds 0 0 1 = 8
            == 18 a wish that is one more than what is still held becomes that
            wish 0 0 8 = 10
            giveBack 0 0 3 = 7
            holds 0 0 1 = 7
            == 18 behind all bottles the wish is 0
            giveBack 0 0 10 = 0
            holds 0 0 1 = 0
            == 18 other wishes stay
            wish 0 1 20 = 0
            wish 1 0 30 = 0
            giveBack 0 0 5 = 5
            holds 0 1 1 = 20
            holds 1 0 1 = 30
            == 18 what is given back is in stock and can be given to others
            giveBack 0 0 4 = 6
            bottling 0 2 = 94
            account 5 = 6
            wish 1 0 94 = 0
            serve 0 = 94
            bottling 0 2 = 0
            """);
    }

    private static void holds() {
        Script.playAll(FOUR + """
            wish 0 0 10 = 0
            wish 1 0 5 = 0
            """, """
            == 19 the customer 0 is right, -1 is not
            holds -1 0 1 ! IOOBE
            holds 0 0 1 = 10
            == 19 the customer 3 is right, 4 is not
            holds 4 0 1 ! IOOBE
            holds 3 0 1 = 0
            == 19 the bottling 0 is right, -1 is not
            holds 0 -1 1 ! IOOBE
            holds 0 0 1 = 10
            == 19 the bottling 1 is right, 2 is not
            holds 0 2 1 ! IOOBE
            holds 0 1 1 = 0
            == 19 what is 0, not -1
            holds 0 0 -1 ! IAE
            holds 0 0 0 = 0
            == 19 what is 2, not 3
            holds 0 0 3 ! IAE
            holds 0 0 2 = 1
            == 19 no such customer comes ahead of a wrong what
            holds 4 0 3 ! IOOBE
            holds -1 0 -1 ! IOOBE
            == 19 no such bottling comes ahead of a wrong what
            holds 0 2 3 ! IOOBE
            holds 0 -1 -1 ! IOOBE
            == 19 the least and the greatest int
            holds -2147483648 0 0 ! IOOBE
            holds 2147483647 0 0 ! IOOBE
            holds 0 -2147483648 0 ! IOOBE
            holds 0 2147483647 0 ! IOOBE
            holds 0 0 -2147483648 ! IAE
            holds 0 0 2147483647 ! IAE
            == 19 the first place on the list is 0
            holds 1 0 2 = 0
            == 19 who wishes nothing is not on the list
            holds 3 0 2 = -1
            == 19 who holds as many as wished is not on the list
            serve 0 = 15
            holds 0 0 2 = -1
            wish 0 0 11 = 10
            holds 0 0 2 = 0
            == 19 who holds more than wished is not on the list
            serve 0 = 15
            wish 0 0 9 = 10
            holds 0 0 2 = -1
            """);
        Script.playAll(FULL + """
            wish 0 15 1 = 0
            wish 1 15 1 = 0
            wish 2 15 1 = 0
            wish 3 15 1 = 0
            wish 4 15 1 = 0
            wish 5 15 1 = 0
            wish 6 15 1 = 0
            wish 7 15 3333 = 0
            """, """
            == 19 the customer 7 and the bottling 15 are right, 8 and 16 are not
            holds 8 15 1 ! IOOBE
            holds 7 16 1 ! IOOBE
            holds 7 15 1 = 3333
            == 19 the last place on the list is 7
            holds 7 15 2 = 7
            holds 7 14 2 = -1
            == 20 of 8 customers the index 7 is right, 8 is not
            listed 15 8 ! NSEE
            listed 15 7 = 7
            == 20 the bottling 15 is right, 16 is not
            listed 16 0 ! IOOBE
            listed 15 0 = 0
            """);
    }

    private static void listed() {
        Script.playAll(FOUR + """
            wish 0 0 10 = 0
            wish 1 0 5 = 0
            wish 2 0 5 = 0
            wish 3 0 5 = 0
            """, """
            == 20 the bottling 0 is right, -1 is not
            listed -1 0 ! IOOBE
            listed 0 0 = 1
            == 20 the bottling 1 is there, 2 is not
            listed 2 0 ! IOOBE
            listed 1 0 ! NSEE
            == 20 the index 0 is right, -1 is not
            listed 0 -1 ! NSEE
            listed 0 0 = 1
            == 20 of 4 customers the index 3 is right, 4 is not
            listed 0 4 ! NSEE
            listed 0 3 = 0
            == 20 on an empty list there is no index 0
            listed 1 0 ! NSEE
            listed 1 -1 ! NSEE
            == 20 no such bottling comes ahead of no such index
            listed 2 -1 ! IOOBE
            listed -1 4 ! IOOBE
            == 20 the least and the greatest int
            listed -2147483648 0 ! IOOBE
            listed 2147483647 0 ! IOOBE
            listed 0 -2147483648 ! NSEE
            listed 0 2147483647 ! NSEE
            == 20 the classes in their order, of several the numbers
            listed 0 0 = 1
            listed 0 1 = 3
            listed 0 2 = 2
            listed 0 3 = 0
            == 20 who has all that was wished leaves the list
            wish 2 0 0 = 5
            listed 0 2 = 0
            listed 0 3 ! NSEE
            == 20 behind serving nobody is left on the list
            serve 0 = 25
            listed 0 0 ! NSEE
            == 20 asking changes nothing
            listed 0 0 = 1
            account 10 = 8
            undo = 7
            holds 3 0 1 = 0
            """);
    }
}
