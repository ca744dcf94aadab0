/** Promises 1 to 9: a new object, harvest, blend, spill, lot, part, share, greatest, meanVintage. */
public final class LotsTest {
    private static final String TWO = """
        harvest 10 0 0 9999 = 0
        harvest 20 1 1 9999 = 1
        """;

    public static void main(String[] args) {
        newBook();
        harvest();
        harvestLimits();
        blend();
        blendRefusals();
        blendOfTooManyLots();
        blendAtTheEdges();
        spill();
        lot();
        part();
        shares();
        shareArguments();
        remainders();
        roundedTwice();
        greatest();
        meanVintage();
        Script.end();
    }

    private static void newBook() {
        StringBuilder accounts = new StringBuilder();
        for (int what = 0; what <= 11; what++) {
            accounts.append("account ").append(what).append(" = 0\n");
        }
        Script.play("1 a new book is empty", accounts + """
            lot 0 0 ! IOOBE
            bottling 0 0 ! IOOBE
            holds 0 0 0 ! IOOBE
            reason ! NSEE
            errorPosition ! NSEE
            undo ! ISE
            restore ! ISE
            setLaw 0 850 = 850
            setLaw 1 850 = 850
            setLaw 2 750 = 750
            """);
    }

    private static void harvest() {
        Script.play("2 harvest", """
            harvest -1 0 0 1 ! IAE
            harvest 100 0 0 1 ! IAE
            harvest 0 -1 0 1 ! IAE
            harvest 0 5 0 1 ! IAE
            harvest 0 0 -1 1 ! IAE
            harvest 0 0 4 1 ! IAE
            harvest 0 0 0 0 ! IAE
            harvest 0 0 0 10000 ! IAE
            harvest 0 0 0 -2147483648 ! IAE
            harvest 2147483647 0 0 1 ! IAE
            account 6 = 0
            account 10 = 0
            harvest 0 0 0 1 = 0
            harvest 99 4 3 9999 = 1
            harvest 0 0 0 1 = 2
            account 6 = 3
            account 7 = 3
            account 0 = 10001
            account 10 = 3
            lot 1 0 = 9999
            share 1 1 99 = 1000
            share 1 2 4 = 1000
            share 1 3 3 = 1000
            reason ! NSEE
            """);
    }

    private static void harvestLimits() {
        StringBuilder twelve = new StringBuilder();
        for (int lot = 0; lot < 12; lot++) {
            twelve.append("harvest 1 1 1 100 = ").append(lot).append("\n");
        }
        Script.play("2 at most 12 harvests", twelve + """
            harvest 1 1 1 100 ! ISE
            harvest 100 1 1 100 ! IAE
            reason ! NSEE
            account 6 = 12
            type 0:1+11:1
            blend = 12
            harvest 1 1 1 100 ! ISE
            undo = 7
            undo = 6
            harvest 2 2 2 7 = 11
            lot 11 4 = 11
            share 11 1 2 = 1000
            """);
        Script.play("2 at most 24 lots", TWO + blends(2, 23) + """
            harvest 1 1 1 1 ! ISE
            harvest 1 1 1 0 ! IAE
            reason ! NSEE
            account 7 = 2
            account 6 = 24
            undo = 7
            harvest 1 1 1 1 = 23
            lot 23 4 = 2
            """);
    }

    /** Lines that make blends of the lots 0 and 1, up to the lot that is the last one. */
    private static String blends(int first, int last) {
        StringBuilder lines = new StringBuilder();
        for (int lot = first; lot <= last; lot++) {
            lines.append("type 0:1+1:1\nblend = ").append(lot).append("\n");
        }
        return lines.toString();
    }

    private static void blend() {
        Script.play("3 blend", TWO + """
            type 1:30+0:70
            account 11 = 9
            blend = 2
            account 11 = 0
            lot 0 1 = 9929
            lot 1 1 = 9969
            lot 2 0 = 100
            lot 2 1 = 100
            lot 0 0 = 9999
            account 0 = 19998
            account 1 = 19998
            account 10 = 3
            type 0:1+1:1+2:98
            blend = 3
            lot 3 0 = 100
            lot 2 1 = 2
            harvest 3 3 3 5 = 4
            type 4:5+0:1+1:1+2:2
            blend = 5
            lot 4 1 = 0
            lot 2 1 = 0
            lot 5 0 = 9
            reason ! NSEE
            errorPosition ! NSEE
            # an error empties the input, too
            type 0:
            blend ! IAE
            account 11 = 0
            errorPosition = 2
            type 0:0+1:1
            blend ! IAE
            account 11 = 0
            errorPosition = 2
            type 0:1+9:1
            blend ! ISE
            account 11 = 0
            reason = 1
            blend ! IAE
            errorPosition = 0
            account 10 = 6
            """);
    }

    private static void blendRefusals() {
        Script.play("3 the reasons of blends, in their order", TWO + """
            harvest 30 2 2 10 = 2
            type 0:1+3:1
            blend ! ISE
            reason = 1
            type 2:11+0:1
            blend ! ISE
            reason = 2
            type 0:1+1:1+0:1
            blend ! ISE
            reason = 1
            type 2:11+1:1
            blend ! ISE
            reason = 2
            # every part is looked at for the first reason ahead of the second one
            type 2:11+9999:1
            blend ! ISE
            reason = 1
            type 0:1+2:11
            blend ! ISE
            reason = 2
            type 2:11+2:1
            blend ! ISE
            reason = 1
            # 0 quarters come first and keep nothing
            type 2:11+0:1
            blend ! ISE
            type 7:1+7:0
            blend ! IAE
            reason = 2
            errorPosition ! NSEE
            type 0:1+1:9999+2:11+0:0
            blend ! IAE
            reason = 2
            # an error of the text comes ahead of them
            type 0:0+1:01
            blend ! IAE
            errorPosition = 7
            account 10 = 3
            lot 0 1 = 9999
            lot 2 1 = 10
            """);
        Script.play("3 at most generation 4", TWO + """
            type 0:10+1:10
            blend = 2
            type 2:9+0:1
            blend = 3
            type 0:1+3:8
            blend = 4
            type 4:7+1:1
            blend = 5
            lot 5 3 = 4
            type 0:1+5:1
            blend ! ISE
            reason = 3
            type 0:1+5:9
            blend ! ISE
            reason = 2
            type 5:1+0:1
            blend ! ISE
            reason = 3
            type 4:1+3:1
            blend = 6
            lot 6 3 = 4
            """);
    }

    private static void blendOfTooManyLots() {
        Script.play("3 at most 24 lots", TWO + """
            type 0:10+1:10
            blend = 2
            type 0:1+2:9
            blend = 3
            type 0:1+3:8
            blend = 4
            type 0:1+4:7
            blend = 5
            """ + blends(6, 23) + """
            type 0:1+1:1
            blend ! ISE
            reason = 4
            type 0:1+5:1
            blend ! ISE
            reason = 3
            type 0:1+1:1
            blend ! ISE
            reason = 4
            type 0:1+24:1
            blend ! ISE
            reason = 1
            undo = 7
            type 0:1+1:1
            blend = 23
            """);
    }

    private static void blendAtTheEdges() {
        Script.play("3 the greatest blend", """
            harvest 0 0 0 9999 = 0
            harvest 1 1 1 9999 = 1
            harvest 2 2 2 9999 = 2
            harvest 3 3 3 9999 = 3
            type 0:9999+1:9999+2:9999+3:9999
            blend = 4
            lot 4 0 = 39996
            lot 4 1 = 39996
            lot 0 1 = 0
            share 4 0 0 = 250
            share 4 0 3 = 250
            spill 4 10000 ! IAE
            spill 4 9999 = 29997
            type 0:1+1:1
            blend ! ISE
            reason = 2
            account 1 = 29997
            """);
    }

    private static void spill() {
        Script.play("4 spill", """
            spill 0 1 ! IOOBE
            harvest 10 0 0 100 = 0
            spill 0 1 = 99
            spill -1 1 ! IOOBE
            spill 1 1 ! IOOBE
            spill 1 0 ! IOOBE
            spill 0 0 ! IAE
            spill 0 -1 ! IAE
            spill 0 100 ! IAE
            spill 0 10000 ! IAE
            account 3 = 1
            account 10 = 2
            lot 0 0 = 100
            lot 0 1 = 99
            spill 0 99 = 0
            spill 0 1 ! IAE
            account 3 = 100
            account 1 = 0
            account 0 = 100
            harvest 10 0 0 9999 = 1
            spill 1 9999 = 0
            account 3 = 10099
            """);
    }

    private static void lot() {
        Script.play("5 lot", TWO + """
            harvest 30 2 2 9999 = 2
            type 2:5+0:5
            blend = 3
            type 3:5+0:5+1:5
            blend = 4
            type 4:1+2:9000
            blend = 5
            lot 0 0 = 9999
            lot 0 1 = 9989
            lot 0 2 = 0
            lot 0 3 = 0
            lot 0 4 = 0
            lot 2 4 = 2
            lot 0 5 = 1
            lot 0 6 = 2
            lot 1 6 = 1
            lot 3 0 = 10
            lot 3 1 = 5
            lot 3 2 = 2
            lot 3 3 = 1
            lot 3 4 = -1
            lot 3 5 = 2
            lot 3 6 = 1
            lot 4 2 = 3
            lot 4 3 = 2
            lot 4 5 = 3
            lot 5 3 = 3
            # of the harvests 0 and 1 lot 5 has a share of 0
            lot 5 5 = 1
            lot 5 6 = 0
            lot 6 0 ! IOOBE
            lot -1 0 ! IOOBE
            lot 6 7 ! IOOBE
            lot 0 7 ! IAE
            lot 0 -1 ! IAE
            account 10 = 6
            """);
    }

    private static void part() {
        Script.play("6 part", TWO + """
            harvest 30 2 2 9999 = 2
            type 2:5+0:6+1:7
            blend = 3
            part 3 0 0 = 2
            part 3 0 1 = 5
            part 3 1 0 = 0
            part 3 1 1 = 6
            part 3 2 0 = 1
            part 3 2 1 = 7
            part 3 3 0 ! NSEE
            part 3 -1 0 ! NSEE
            part 3 3 2 ! NSEE
            part 3 0 2 ! IAE
            part 3 0 -1 ! IAE
            part 0 0 0 ! NSEE
            part 4 0 0 ! IOOBE
            part -1 0 0 ! IOOBE
            part 4 9 9 ! IOOBE
            spill 3 18 = 0
            part 3 2 1 = 7
            """);
    }

    private static void shares() {
        Script.play("7 share by harvest, vintage, grape and region", """
            harvest 10 0 0 1000 = 0
            harvest 10 1 3 1000 = 1
            harvest 99 1 0 1000 = 2
            type 0:50+1:30+2:20
            blend = 3
            share 3 0 0 = 500
            share 3 0 1 = 300
            share 3 0 2 = 200
            share 3 1 10 = 800
            share 3 1 99 = 200
            share 3 1 0 = 0
            share 3 2 0 = 500
            share 3 2 1 = 500
            share 3 2 4 = 0
            share 3 3 0 = 700
            share 3 3 3 = 300
            share 3 3 1 = 0
            share 0 0 0 = 1000
            share 0 0 1 = 0
            share 0 1 10 = 1000
            # what is taken out of a lot does not change its shares
            spill 3 99 = 1
            share 3 0 1 = 300
            """);
    }

    private static void shareArguments() {
        Script.play("7 the arguments of share", TWO + """
            share 2 0 0 ! IOOBE
            share -1 0 0 ! IOOBE
            share 2 4 0 ! IOOBE
            share 0 4 0 ! IAE
            share 0 -1 0 ! IAE
            share 0 0 2 ! IAE
            share 0 0 -1 ! IAE
            share 0 1 100 ! IAE
            share 0 1 -1 ! IAE
            share 0 1 99 = 0
            share 0 2 5 ! IAE
            share 0 2 -1 ! IAE
            share 0 2 4 = 0
            share 0 3 4 ! IAE
            share 0 3 -1 ! IAE
            share 0 3 3 = 0
            type 0:1+1:1
            blend = 2
            # a blend is no harvest
            share 2 0 2 ! IAE
            share 2 0 1 = 500
            """);
    }

    private static void remainders() {
        Script.play("3 and 7 missing thousandths", TWO + """
            harvest 30 2 2 9999 = 2
            harvest 40 3 3 9999 = 3
            # one is missing, all remainders are the same
            type 2:1+1:1+0:1
            blend = 4
            share 4 0 0 = 334
            share 4 0 1 = 333
            share 4 0 2 = 333
            # two are missing, three remainders are the same
            type 3:2+2:2+1:2+0:6
            blend = 5
            share 5 0 0 = 500
            share 5 0 1 = 167
            share 5 0 2 = 167
            share 5 0 3 = 166
            # three are missing, the harvest 0 has the least remainder
            type 0:4+1:1+2:1+3:1
            blend = 6
            share 6 0 0 = 571
            share 6 0 1 = 143
            share 6 0 2 = 143
            share 6 0 3 = 143
            # the greatest remainder is not that of the lowest number
            type 0:1+1:2
            blend = 7
            share 7 0 0 = 333
            share 7 0 1 = 667
            # a share can be 0
            type 3:1+2:9000
            blend = 8
            share 8 0 2 = 1000
            share 8 0 3 = 0
            lot 8 5 = 1
            lot 3 6 = 3
            # a share of 1 counts
            type 3:1+2:990
            blend = 9
            share 9 0 3 = 1
            lot 9 5 = 2
            greatest 9 1 = 3
            """);
    }

    private static void roundedTwice() {
        Script.play("7 shares come from the shares of the parts", TWO + """
            harvest 30 2 2 9999 = 2
            type 0:1+1:1+2:1
            blend = 3
            type 3:1+2:1
            blend = 4
            # 334, 333 and 333 + 1000, each over 2: the missing one goes to harvest 1
            share 4 0 0 = 167
            share 4 0 1 = 167
            share 4 0 2 = 666
            type 3:2+4:1
            blend = 5
            # 835, 833 and 1332 over 3: remainders 1, 2 and 0
            share 5 0 0 = 278
            share 5 0 1 = 278
            share 5 0 2 = 444
            """);
    }

    private static void greatest() {
        Script.play("8 greatest", TWO + """
            harvest 30 2 2 9999 = 2
            harvest 40 3 3 9999 = 3
            type 0:1+1:3+2:3+3:5
            blend = 4
            greatest 4 0 = 3
            greatest 4 1 = 1
            greatest 4 2 = 2
            greatest 4 3 = 0
            greatest 4 4 ! NSEE
            greatest 4 -1 ! NSEE
            greatest 5 0 ! IOOBE
            greatest -1 0 ! IOOBE
            greatest 5 9 ! IOOBE
            greatest 2 0 = 2
            greatest 2 1 ! NSEE
            type 2:1+0:9990
            blend = 5
            greatest 5 0 = 0
            greatest 5 1 ! NSEE
            """);
    }

    private static void meanVintage() {
        Script.play("9 meanVintage", TWO + """
            harvest 99 2 2 9999 = 2
            harvest 0 2 2 9999 = 3
            meanVintage 0 = 10.0
            meanVintage 2 = 99.0
            meanVintage 3 = 0.0
            type 0:1+1:1
            blend = 4
            meanVintage 4 = 15.0
            type 0:1+1:1+2:1
            blend = 5
            # 334 * 10 + 333 * 20 + 333 * 99
            meanVintage 5 = 42.967
            type 2:7+3:3
            blend = 6
            meanVintage 6 = 69.3
            meanVintage 7 ! IOOBE
            meanVintage -1 ! IOOBE
            """);
        // With a division for each harvest this would be 2.9970000000000003.
        Script.play("9 the sum is divided once", """
            harvest 1 0 0 9999 = 0
            harvest 2 0 0 9999 = 1
            harvest 3 0 0 9999 = 2
            type 0:1+1:1+2:998
            blend = 3
            meanVintage 3 = 2.997
            """);
    }
}
