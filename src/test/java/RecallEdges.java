/** The edges of the promises 21 to 25, each in a script of its own. */
final class RecallEdges {
    /** The generations of the lots 2 to 5 are 1 to 4; lot 6 is the harvest 2, which goes into no blend. */
    private static final String CHAIN = """
        harvest 10 0 0 9999 = 0
        harvest 20 1 1 9999 = 1
        mix 0:100+1:100 = 2
        mix 2:100+0:100 = 3
        mix 3:100+0:100 = 4
        mix 4:100+0:100 = 5
        harvest 30 2 2 9999 = 6
        """;
    private static final String BOTTLED = CHAIN + """
        bottle 5 1 -1 -1 -1 -1 = 0
        bottle 2 2 -1 -1 -1 -1 = 1
        bottle 6 4 -1 -1 -1 -1 = 2
        bottle 0 8 -1 -1 -1 -1 = 3
        """;

    private RecallEdges() {
    }

    static void playAll() {
        recalled("21", "recalled");
        recalled("22", "recalledAgain");
        bottlesOf();
        bottlesOfNobody();
        waysNumbers();
        ways();
        accountNumbers();
        accountsThatAddUp();
        accountsOfRoom();
    }

    private static void recalled(String promise, String call) {
        Script.playAll(BOTTLED, """
            == 21 the lot 0 is right, -1 is not
            recalled -1 ! IOOBE
            recalled 0 = 11
            == 21 the lot 6 is right, 7 is not
            recalled 7 ! IOOBE
            recalled 6 = 4
            == 21 the least and the greatest int are no lots
            recalled -2147483648 ! IOOBE
            recalled 2147483647 ! IOOBE
            == 21 a lot goes into itself
            recalled 5 = 1
            recalled 6 = 4
            == 21 a lot through 4 blends
            recalled 1 = 3
            recalled 2 = 3
            recalled 3 = 1
            recalled 4 = 1
            == 21 a blend is not recalled for a lot that is made of it
            recalled 5 = 1
            == 21 no bottling is recalled
            harvest 40 3 3 5 = 7
            recalled 7 = 0
            == 21 several bottlings of one lot
            bottle 5 1 -1 -1 -1 -1 = 4
            recalled 4 = 17
            == 21 a lot of which nothing is left is recalled
            spill 0 9575 = 0
            recalled 0 = 11
            == 21 a blend of which nothing is left is recalled
            spill 5 197 = 0
            spill 4 100 = 0
            recalled 0 = 11
            recalled 4 = 1
            == 21 a bottling without bottles in stock is recalled
            addCustomer 0 = 0
            wish 0 0 1 = 0
            serve 0 = 1
            bottling 0 2 = 0
            recalled 5 = 1
            recalled 0 = 11
            == 21 a blend that was undone is not recalled
            mix 6:10+1:10 = 7
            bottle 7 1 -1 -1 -1 -1 = 4
            recalled 6 = 20
            undo = 7
            recalled 6 = 4
            undo = 6
            recalled 7 ! IOOBE
            recalled 6 = 4
            == 21 asking changes nothing
            recalled 0 = 11
            recalled 7 ! IOOBE
            account 10 = 8
            account 8 = 4
            reason ! NSEE
            """.replace("21 ", promise + " ").replace("recalled ", call + " "));
        Script.playAll("""
            harvest 10 0 0 9999 = 0
            harvest 20 1 1 9999 = 1
            """, """
            == 21 a book without bottlings
            recalled 0 = 0
            == 21 a share of 0 is recalled all the same
            mix 0:1+1:9000 = 2
            bottle 2 1 -1 -1 -1 -1 = 0
            share 2 0 0 = 0
            recalled 0 = 1
            == 21 all of 16 bottlings
            times 16 bottle 0 1 -1 -1 -1 -1
            recalled 0 = 65535
            recalled 1 = 0
            == 21 the bottling 15 alone
            times 15 bottle 0 1 -1 -1 -1 -1
            bottle 1 1 -1 -1 -1 -1 = 15
            recalled 1 = 32768
            recalled 0 = 32767
            == 21 the lot 23 is right, 24 is not
            times 22 mix 0:2+1:2
            bottle 23 1 -1 -1 -1 -1 = 0
            bottle 22 1 -1 -1 -1 -1 = 1
            recalled 24 ! IOOBE
            recalled 23 = 1
            recalled 0 = 3
            """.replace("21 ", promise + " ").replace("recalled ", call + " "));
    }

    private static void bottlesOf() {
        Script.playAll(BOTTLED + """
            addCustomer 0 = 0
            addCustomer 0 = 1
            wish 1 1 1 = 0
            wish 1 3 5 = 0
            serve 1 = 1
            serve 3 = 5
            """, """
            == 23 the lot 0 is right, -1 is not
            bottlesOf -1 1 ! IOOBE
            bottlesOf -1 -1 ! IOOBE
            bottlesOf 0 1 = 6
            == 23 the lot 6 is right, 7 is not
            bottlesOf 7 1 ! IOOBE
            bottlesOf 7 -1 ! IOOBE
            bottlesOf 6 1 = 0
            == 23 the customer 0 is right, -1 is for the stock, -2 is not right
            bottlesOf 0 -2 ! IOOBE
            bottlesOf 0 -1 = 5
            bottlesOf 0 0 = 0
            == 23 the customer 1 is right, 2 is not
            bottlesOf 0 2 ! IOOBE
            bottlesOf 0 1 = 6
            == 23 neither lot nor customer
            bottlesOf 7 2 ! IOOBE
            bottlesOf -1 -2 ! IOOBE
            == 23 the least and the greatest int
            bottlesOf -2147483648 0 ! IOOBE
            bottlesOf 2147483647 0 ! IOOBE
            bottlesOf 0 -2147483648 ! IOOBE
            bottlesOf 0 2147483647 ! IOOBE
            == 23 only of bottlings that are recalled
            bottlesOf 1 1 = 1
            bottlesOf 1 -1 = 2
            bottlesOf 5 1 = 0
            bottlesOf 5 -1 = 1
            bottlesOf 6 -1 = 4
            == 23 what is held beyond a wish counts
            wish 1 3 0 = 5
            bottlesOf 0 1 = 6
            == 23 what is given back counts as stock
            giveBack 1 3 5 = 0
            bottlesOf 0 1 = 1
            bottlesOf 0 -1 = 10
            == 23 nothing is in stock
            wish 0 0 1 = 0
            serve 0 = 1
            bottlesOf 5 -1 = 0
            bottlesOf 5 0 = 1
            == 23 a lot of which nothing is left
            spill 0 9575 = 0
            bottlesOf 0 1 = 6
            bottlesOf 0 -1 = 5
            """);
    }

    private static void bottlesOfNobody() {
        Script.playAll(CHAIN, """
            == 23 a book without bottlings has none in stock
            bottlesOf 0 -1 = 0
            == 23 a book without customers
            bottlesOf 0 0 ! IOOBE
            == 23 of 8 customers 7 is right, 8 is not
            bottle 0 3 -1 -1 -1 -1 = 0
            times 8 addCustomer 0
            wish 7 0 3 = 0
            serve 0 = 3
            bottlesOf 0 8 ! IOOBE
            bottlesOf 0 7 = 3
            bottlesOf 0 -1 = 0
            == 23 the most bottles
            bottle 6 3333 -1 -1 -1 -1 = 0
            bottlesOf 6 -1 = 3333
            """);
    }

    private static void waysNumbers() {
        Script.playAll(CHAIN, """
            == 24 the lot 0 is right, -1 is not
            ways -1 0 ! IOOBE
            ways 0 5 = 4
            == 24 the lot 6 is right, 7 is not
            ways 7 0 ! IOOBE
            ways 6 5 = 0
            == 24 the other lot 0 is right, -1 is not
            ways 0 -1 ! IOOBE
            ways 1 0 = 0
            == 24 the other lot 6 is right, 7 is not
            ways 0 7 ! IOOBE
            ways 0 6 = 0
            == 24 neither lot
            ways 7 -1 ! IOOBE
            ways 7 7 ! IOOBE
            ways -1 -1 ! IOOBE
            == 24 the least and the greatest int
            ways -2147483648 0 ! IOOBE
            ways 2147483647 0 ! IOOBE
            ways 0 -2147483648 ! IOOBE
            ways 0 2147483647 ! IOOBE
            """);
    }

    private static void ways() {
        Script.playAll(CHAIN, """
            == 24 1 for the same harvest
            ways 0 0 = 1
            ways 6 6 = 1
            == 24 1 for the same blend
            ways 2 2 = 1
            ways 5 5 = 1
            == 24 0 from a blend into its part
            ways 2 0 = 0
            ways 5 2 = 0
            == 24 0 for lots that have nothing to do with each other
            ways 6 5 = 0
            ways 0 1 = 0
            == 24 the sum of the ways into the parts, for each generation
            ways 0 2 = 1
            ways 0 3 = 2
            ways 0 4 = 3
            ways 0 5 = 4
            ways 1 5 = 1
            ways 4 5 = 1
            == 24 a lot of which nothing is left
            spill 2 100 = 0
            ways 0 3 = 2
            ways 2 5 = 1
            == 24 blends of blends that are made of the same lots
            mix 0:10+1:10+6:10 = 7
            mix 0:10+1:10+6:10 = 8
            mix 0:10+1:10+6:10 = 9
            mix 7:1+8:1+9:1+0:1 = 10
            mix 7:1+8:1+9:1+0:1 = 11
            mix 10:1+11:1+7:1+8:1 = 12
            mix 10:1+11:1+7:1+8:1 = 13
            mix 12:1+13:1+10:1+11:1 = 14
            ways 0 10 = 4
            ways 0 12 = 10
            ways 0 14 = 28
            ways 7 14 = 8
            ways 6 14 = 22
            ways 14 0 = 0
            """);
        Script.playAll("""
            times 2 harvest 0 0 0 9999
            times 22 mix 0:1+1:1
            """, """
            == 24 the lot 23 is right, 24 is not
            ways 0 24 ! IOOBE
            ways 24 0 ! IOOBE
            ways 0 23 = 1
            ways 23 23 = 1
            ways 23 0 = 0
            ways 22 23 = 0
            """);
    }

    private static void accountNumbers() {
        Script.playAll(BOTTLED, """
            == 25 what is 0, not -1
            account -1 ! IAE
            account 0 = 29997
            == 25 what is 11, not 12
            account 12 ! IAE
            account 11 = 0
            == 25 the least and the greatest int
            account -2147483648 ! IAE
            account 2147483647 ! IAE
            == 25 each account
            type 0:
            account 0 = 29997
            account 1 = 29952
            account 2 = 45
            account 3 = 0
            account 4 = 15
            account 5 = 0
            account 6 = 7
            account 7 = 3
            account 8 = 4
            account 9 = 0
            account 10 = 8
            account 11 = 2
            == 25 a wrong what changes nothing
            account 12 ! IAE
            account 10 = 8
            reason ! NSEE
            """);
    }

    private static void accountsThatAddUp() {
        Script.playAll(BOTTLED, """
            == 25 the account 0 is the sum of 1 to 3 behind a harvest
            harvest 0 0 0 1 = 7
            account 0 = 29998
            account 1 = 29953
            account 2 = 45
            account 3 = 0
            == 25 the account 0 is the sum of 1 to 3 behind a blend
            mix 0:5+6:7 = 7
            account 0 = 29997
            account 1 = 29952
            account 2 = 45
            account 3 = 0
            == 25 the account 0 is the sum of 1 to 3 behind spilling
            spill 5 197 = 0
            spill 6 1 = 9986
            account 0 = 29997
            account 1 = 29754
            account 2 = 45
            account 3 = 198
            == 25 the account 0 is the sum of 1 to 3 behind bottling
            bottle 6 3329 -1 -1 -1 -1 = 4
            lot 6 1 = 0
            account 0 = 29997
            account 1 = 19965
            account 2 = 10032
            account 3 = 0
            == 25 the account 0 is the sum of 1 to 3 behind undo
            spill 6 9987 = 0
            bottle 0 10 -1 -1 -1 -1 = 4
            undo = 7
            account 1 = 19965
            account 2 = 45
            account 3 = 9987
            undo = 6
            account 0 = 29997
            account 1 = 29952
            account 2 = 45
            account 3 = 0
            == 25 the account 0 is the sum of 1 to 3 behind restore
            spill 6 7 = 9980
            save = 7
            spill 6 80 = 9900
            bottle 6 10 -1 -1 -1 -1 = 4
            restore = 7
            account 0 = 29997
            account 1 = 29945
            account 2 = 45
            account 3 = 7
            == 25 bottles are in stock or held
            addCustomer 0 = 0
            addCustomer 0 = 1
            wish 0 3 5 = 0
            wish 1 3 9 = 0
            wish 1 2 1 = 0
            serve 3 = 8
            serve 2 = 1
            account 4 = 6
            account 5 = 9
            account 2 = 45
            giveBack 1 2 1 = 0
            account 4 = 7
            account 5 = 8
            account 2 = 45
            == 25 what is held beyond a wish is held
            addCustomer 0 = 0
            wish 0 3 8 = 0
            serve 3 = 8
            wish 0 3 0 = 8
            account 5 = 8
            """);
    }

    private static void accountsOfRoom() {
        Script.playAll("", """
            == 25 12 harvests in 24 lots, all as great as can be
            times 12 harvest 0 0 0 9999
            times 12 mix 0:1+1:1
            account 0 = 119988
            account 1 = 119988
            account 6 = 24
            account 7 = 12
            == 25 16 bottlings and 8 customers
            harvest 0 0 0 9999 = 0
            times 16 bottle 0 1 -1 -1 -1 -1
            times 8 addCustomer 2
            account 4 = 16
            account 8 = 16
            account 9 = 8
            == 25 the most bottles in stock: all wine of 12 harvests
            times 12 harvest 0 0 0 9999
            bottle 0 3333 -1 -1 -1 -1 = 0
            bottle 1 3333 -1 -1 -1 -1 = 1
            bottle 2 3333 -1 -1 -1 -1 = 2
            bottle 3 3333 -1 -1 -1 -1 = 3
            bottle 4 3333 -1 -1 -1 -1 = 4
            bottle 5 3333 -1 -1 -1 -1 = 5
            bottle 6 3333 -1 -1 -1 -1 = 6
            bottle 7 3333 -1 -1 -1 -1 = 7
            bottle 8 3333 -1 -1 -1 -1 = 8
            bottle 9 3333 -1 -1 -1 -1 = 9
            bottle 10 3333 -1 -1 -1 -1 = 10
            bottle 11 3333 -1 -1 -1 -1 = 11
            account 1 = 0
            account 2 = 119988
            account 4 = 39996
            == 25 the changes that can be undone are 7, 8, and 8 again
            times 7 addCustomer 0
            account 10 = 7
            addCustomer 0 = 7
            account 10 = 8
            setLaw 0 500 = 850
            account 10 = 8
            == 25 the changes that can be undone behind undo and restore
            times 3 addCustomer 0
            save = 0
            undo = 2
            account 10 = 2
            restore = 0
            account 10 = 0
            == 25 the characters of the input are 39 and 40
            type 012345678901234567890123456789012345678
            account 11 = 39
            feed 57 = 40
            account 11 = 40
            feed 57 ! ISE
            account 11 = 40
            """);
    }
}
