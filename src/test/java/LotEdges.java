/** The edges of the promises 1 to 9, each in a script of its own. */
final class LotEdges {
    private static final String TWO = """
        harvest 10 0 0 9999 = 0
        harvest 20 1 1 9999 = 1
        """;
    private static final String FOUR = TWO + """
        harvest 30 2 2 9999 = 2
        harvest 40 3 3 9999 = 3
        """;
    private static final String FULL = TWO + """
        times 22 mix 0:1+1:1
        account 6 = 24
        """;
    /** The generations of the lots 2 to 5 are 1 to 4; 100 quarters are left in 2, 3 and 4, and 200 in 5. */
    private static final String CHAIN = TWO + """
        mix 0:100+1:100 = 2
        mix 2:100+0:100 = 3
        mix 3:100+0:100 = 4
        mix 4:100+1:100 = 5
        """;
    private static final String FULL_CHAIN = CHAIN + """
        times 18 mix 0:1+1:1
        account 6 = 24
        """;
    /** The lots 12 to 14 have 250 thousandths of four harvests each. */
    private static final String TWELVE = """
        times 12 harvest 0 0 0 1000
        mix 0:250+1:250+2:250+3:250 = 12
        mix 4:250+5:250+6:250+7:250 = 13
        mix 8:250+9:250+10:250+11:250 = 14
        """;

    private LotEdges() {
    }

    static void playAll() {
        newBook();
        harvestNumbers();
        harvestRoom();
        blendTexts();
        blendRefusalsAlone();
        blendRefusalsTogether();
        blendAheadOfRefusals();
        blendOfAllThatIsLeft();
        spill();
        lot();
        part();
        shareArguments();
        shareRounding();
        greatest();
        meanVintage();
    }

    private static void newBook() {
        StringBuilder accounts = new StringBuilder();
        for (int what = 0; what <= 11; what++) {
            accounts.append("account ").append(what).append(" = 0\n");
        }
        Script.play("1 every account of a new book is 0", accounts.toString());
        Script.playAll("", """
            == 1 a new book has no lot 0
            spill 0 1 ! IOOBE
            lot 0 0 ! IOOBE
            part 0 0 0 ! IOOBE
            share 0 0 0 ! IOOBE
            greatest 0 0 ! IOOBE
            meanVintage 0 ! IOOBE
            bottle 0 1 -1 -1 -1 -1 ! IOOBE
            forbids 0 -1 -1 -1 -1 ! IOOBE
            recalled 0 ! IOOBE
            recalledAgain 0 ! IOOBE
            bottlesOf 0 -1 ! IOOBE
            ways 0 0 ! IOOBE
            == 1 a new book has no bottling 0
            bottling 0 0 ! IOOBE
            serve 0 ! IOOBE
            listed 0 0 ! IOOBE
            == 1 a new book has no customer 0
            wish 0 0 1 ! IOOBE
            giveBack 0 0 1 ! IOOBE
            holds 0 0 0 ! IOOBE
            == 1 a new book has no lot that a blend could take
            mix 0:1+1:1 ! ISE
            reason = 1
            == 1 the law of a new book is 850, 850 and 750
            setLaw 0 1000 = 850
            setLaw 1 1000 = 850
            setLaw 2 1000 = 750
            == 1 a new book has no reason
            reason ! NSEE
            == 1 a new book has no error position
            errorPosition ! NSEE
            == 1 a new book has nothing to undo
            undo ! ISE
            == 1 a new book has nothing to restore
            restore ! ISE
            == 1 the input of a new book is empty
            account 11 = 0
            blend ! IAE
            errorPosition = 0
            == 1 a new book that is saved has no lots
            save = 0
            restore = 0
            """);
    }

    private static void harvestNumbers() {
        Script.playAll("", """
            == 2 the vintage 0 is right, -1 is not
            harvest -1 0 0 1 ! IAE
            harvest 0 0 0 1 = 0
            share 0 1 0 = 1000
            == 2 the vintage 99 is right, 100 is not
            harvest 100 0 0 1 ! IAE
            harvest 99 0 0 1 = 0
            share 0 1 99 = 1000
            == 2 the grape 0 is right, -1 is not
            harvest 0 -1 0 1 ! IAE
            harvest 0 0 0 1 = 0
            share 0 2 0 = 1000
            == 2 the grape 4 is right, 5 is not
            harvest 0 5 0 1 ! IAE
            harvest 0 4 0 1 = 0
            share 0 2 4 = 1000
            == 2 the region 0 is right, -1 is not
            harvest 0 0 -1 1 ! IAE
            harvest 0 0 0 1 = 0
            share 0 3 0 = 1000
            == 2 the region 3 is right, 4 is not
            harvest 0 0 4 1 ! IAE
            harvest 0 0 3 1 = 0
            share 0 3 3 = 1000
            == 2 1 quarter is right, 0 and -1 are not
            harvest 0 0 0 0 ! IAE
            harvest 0 0 0 -1 ! IAE
            harvest 0 0 0 1 = 0
            lot 0 0 = 1
            == 2 9999 quarters are right, 10000 are not
            harvest 0 0 0 10000 ! IAE
            harvest 0 0 0 9999 = 0
            lot 0 0 = 9999
            == 2 the least and the greatest int are out of every range
            harvest -2147483648 0 0 1 ! IAE
            harvest 2147483647 0 0 1 ! IAE
            harvest 0 -2147483648 0 1 ! IAE
            harvest 0 2147483647 0 1 ! IAE
            harvest 0 0 -2147483648 1 ! IAE
            harvest 0 0 2147483647 1 ! IAE
            harvest 0 0 0 -2147483648 ! IAE
            harvest 0 0 0 2147483647 ! IAE
            == 2 numbers that would be right behind a wrap-around are out of range
            harvest 256 0 0 1 ! IAE
            harvest 0 65536 0 1 ! IAE
            harvest 0 0 256 1 ! IAE
            harvest 0 0 0 65537 ! IAE
            == 2 a harvest that was wrong brings in nothing
            harvest 0 0 0 10000 ! IAE
            account 0 = 0
            account 6 = 0
            account 7 = 0
            account 10 = 0
            == 2 harvests alike are two lots
            harvest 10 1 1 5 = 0
            harvest 10 1 1 5 = 1
            lot 1 4 = 1
            share 1 0 0 = 0
            == 2 harvests are numbered on their own
            harvest 10 0 0 5 = 0
            harvest 10 0 0 5 = 1
            mix 0:1+1:1 = 2
            harvest 30 0 0 5 = 3
            lot 3 4 = 2
            share 3 0 2 = 1000
            """);
    }

    private static void harvestRoom() {
        Script.playAll("", """
            == 2 the 12th harvest finds room, the 13th does not
            times 11 harvest 1 1 1 100
            harvest 1 1 1 100 = 11
            harvest 1 1 1 100 ! ISE
            == 2 the 12th harvest finds room as the lot 23, and nothing does behind it
            times 11 harvest 1 1 1 100
            times 12 mix 0:1+1:1
            harvest 1 1 1 100 = 23
            lot 23 4 = 11
            harvest 1 1 1 100 ! ISE
            account 6 = 24
            account 7 = 12
            == 2 the 24th lot finds room, the 25th does not
            times 2 harvest 1 1 1 100
            times 21 mix 0:1+1:1
            harvest 1 1 1 100 = 23
            harvest 1 1 1 100 ! ISE
            account 7 = 3
            == 2 harvests of which nothing is left take room
            times 12 harvest 1 1 1 1
            spill 0 1 = 0
            spill 11 1 = 0
            harvest 1 1 1 1 ! ISE
            == 2 a wrong number comes ahead of 12 harvests
            times 12 harvest 1 1 1 100
            harvest 100 1 1 100 ! IAE
            harvest 1 5 1 100 ! IAE
            harvest 1 1 4 100 ! IAE
            harvest 1 1 1 0 ! IAE
            == 2 a wrong number comes ahead of 24 lots
            times 2 harvest 1 1 1 100
            times 22 mix 0:1+1:1
            harvest -1 1 1 100 ! IAE
            harvest 1 -1 1 100 ! IAE
            harvest 1 1 -1 100 ! IAE
            harvest 1 1 1 10000 ! IAE
            == 2 no reason is kept when 12 harvests are there
            times 12 harvest 1 1 1 100
            harvest 1 1 1 100 ! ISE
            reason ! NSEE
            == 2 no reason is kept when 24 lots are there
            times 2 harvest 1 1 1 100
            times 22 mix 0:1+1:1
            harvest 1 1 1 100 ! ISE
            reason ! NSEE
            == 2 the reason that was kept stays when there is no room
            times 12 harvest 1 1 1 100
            mix 0:101+1:1 ! ISE
            harvest 1 1 1 100 ! ISE
            reason = 2
            == 2 a harvest without room changes nothing
            times 12 harvest 1 1 1 100
            harvest 1 1 1 100 ! ISE
            account 0 = 1200
            account 6 = 12
            account 7 = 12
            account 10 = 8
            undo = 7
            account 7 = 11
            == 2 there is room again behind undo
            times 12 harvest 1 1 1 100
            undo = 7
            harvest 1 1 1 100 = 11
            harvest 1 1 1 100 ! ISE
            """);
    }

    private static void blendTexts() {
        Script.playAll(FOUR, """
            == 3 2 parts are right, 1 is not
            mix 0:1 ! IAE
            errorPosition = 3
            mix 0:1+1:1 = 4
            lot 4 2 = 2
            == 3 4 parts are right, 5 are not
            mix 0:1+1:1+2:1+3:1+4:1 ! IAE
            errorPosition = 15
            mix 0:1+1:1+2:1+3:1 = 4
            lot 4 2 = 4
            == 3 1 quarter is right, 0 is not
            mix 0:0+1:1 ! IAE
            mix 0:1+1:1 = 4
            part 4 0 1 = 1
            == 3 9999 quarters are right, 10000 are an error
            mix 0:10000+1:1 ! IAE
            errorPosition = 6
            mix 0:9999+1:1 = 4
            part 4 0 1 = 9999
            == 3 0 quarters in the first part
            mix 0:0+1:1+2:1+3:1 ! IAE
            == 3 0 quarters in the second part
            mix 0:1+1:0+2:1+3:1 ! IAE
            == 3 0 quarters in the third part
            mix 0:1+1:1+2:0+3:1 ! IAE
            == 3 0 quarters in the fourth part
            mix 0:1+1:1+2:1+3:0 ! IAE
            == 3 0 quarters in every part
            mix 0:0+1:0 ! IAE
            == 3 0 quarters keep no error position
            mix 0:0+1:1 ! IAE
            errorPosition ! NSEE
            == 3 0 quarters leave the error position that was kept
            mix 0:x ! IAE
            mix 0:0+1:1 ! IAE
            errorPosition = 2
            == 3 0 quarters keep no reason
            mix 0:0+1:1 ! IAE
            reason ! NSEE
            == 3 0 quarters change nothing
            mix 0:1+1:0 ! IAE
            account 6 = 4
            account 10 = 4
            lot 0 1 = 9999
            == 3 the empty text is an error
            blend ! IAE
            errorPosition = 0
            account 10 = 4
            == 3 an error keeps no reason
            mix 0:1 ! IAE
            reason ! NSEE
            == 3 an error changes nothing
            mix 0:1+1:1+ ! IAE
            account 6 = 4
            account 10 = 4
            lot 0 1 = 9999
            == 3 the input is empty behind a blend
            mix 0:1+1:1 = 4
            account 11 = 0
            == 3 the input is empty behind an error
            mix 0:1+1:1x ! IAE
            account 11 = 0
            == 3 the input is empty behind 0 quarters
            mix 0:1+1:0 ! IAE
            account 11 = 0
            == 3 the input is empty behind each refusal
            mix 0:1+0:1 ! ISE
            account 11 = 0
            spill 0 9999 = 0
            mix 0:1+1:1 ! ISE
            account 11 = 0
            == 3 the same text is not read again
            mix 0:1+1:1 = 4
            blend ! IAE
            errorPosition = 0
            == 3 the least blend has 2 quarters
            mix 0:1+1:1 = 4
            lot 4 0 = 2
            == 3 the greatest blend has 39996 quarters
            mix 0:9999+1:9999+2:9999+3:9999 = 4
            lot 4 0 = 39996
            lot 4 1 = 39996
            account 1 = 39996
            == 3 the last lot can be a part, the one behind it can not
            mix 0:1+4:1 ! ISE
            reason = 1
            mix 0:1+3:1 = 4
            == 3 the blend itself is no lot yet
            mix 0:1+1:1+4:1 ! ISE
            reason = 1
            """);
    }

    private static void blendRefusalsAlone() {
        Script.playAll(FOUR, """
            == 3 reason 1: the first part is a lot that there is not
            mix 4:1+0:1+1:1+2:1 ! ISE
            reason = 1
            == 3 reason 1: the second part is a lot that there is not
            mix 0:1+4:1+1:1+2:1 ! ISE
            reason = 1
            == 3 reason 1: the third part is a lot that there is not
            mix 0:1+1:1+4:1+2:1 ! ISE
            reason = 1
            == 3 reason 1: the fourth part is a lot that there is not
            mix 0:1+1:1+2:1+4:1 ! ISE
            reason = 1
            == 3 reason 1: the lot 9999
            mix 0:1+9999:1 ! ISE
            reason = 1
            == 3 reason 1: the lots 24 and 32, whatever the bits of sets are
            mix 0:1+24:1 ! ISE
            mix 0:1+32:1 ! ISE
            reason = 1
            == 3 reason 1: the parts 1 and 2 are the same lot
            mix 0:1+0:1 ! ISE
            reason = 1
            == 3 reason 1: the parts 1 and 3 are the same lot
            mix 0:1+1:1+0:1 ! ISE
            reason = 1
            == 3 reason 1: the parts 1 and 4 are the same lot
            mix 0:1+1:1+2:1+0:1 ! ISE
            reason = 1
            == 3 reason 1: the parts 2 and 3 are the same lot
            mix 0:1+1:1+1:1 ! ISE
            reason = 1
            == 3 reason 1: the parts 2 and 4 are the same lot
            mix 0:1+1:1+2:1+1:1 ! ISE
            reason = 1
            == 3 reason 1: the parts 3 and 4 are the same lot
            mix 0:1+1:1+2:1+2:1 ! ISE
            reason = 1
            == 3 reason 1: all parts are the same lot
            mix 3:1+3:1+3:1+3:1 ! ISE
            reason = 1
            == 3 reason 2: the first part has more quarters than are left
            spill 0 9000 = 999
            mix 0:1000+1:1+2:1+3:1 ! ISE
            reason = 2
            mix 0:999+1:1+2:1+3:1 = 4
            == 3 reason 2: the second part has more quarters than are left
            spill 0 9000 = 999
            mix 1:1+0:1000+2:1+3:1 ! ISE
            reason = 2
            mix 1:1+0:999+2:1+3:1 = 4
            == 3 reason 2: the third part has more quarters than are left
            spill 0 9000 = 999
            mix 1:1+2:1+0:1000+3:1 ! ISE
            reason = 2
            mix 1:1+2:1+0:999+3:1 = 4
            == 3 reason 2: the fourth part has more quarters than are left
            spill 0 9000 = 999
            mix 1:1+2:1+3:1+0:1000 ! ISE
            reason = 2
            mix 1:1+2:1+3:1+0:999 = 4
            """);
        Script.playAll(CHAIN, """
            == 3 reason 3: the generation 4 is right, 5 is not
            lot 5 3 = 4
            mix 5:1+0:1 ! ISE
            reason = 3
            mix 4:1+0:1 = 6
            lot 6 3 = 4
            == 3 reason 3: the part of generation 4 is the last one
            mix 0:1+1:1+2:1+5:1 ! ISE
            reason = 3
            == 3 reason 3: the part of generation 4 is in the middle
            mix 0:1+5:1+1:1 ! ISE
            reason = 3
            == 3 the generation is that of the greatest part, wherever it stands
            mix 0:1+1:1+3:1+2:1 = 6
            lot 6 3 = 3
            mix 3:1+2:1+1:1 = 7
            lot 7 3 = 3
            == 3 two parts of generation 3 make 4
            mix 0:1+3:1 = 6
            mix 4:1+6:1 = 7
            lot 7 3 = 4
            """);
        Script.playAll(TWO, """
            == 3 reason 4: the 24th lot finds room, the 25th does not
            times 21 mix 0:1+1:1
            mix 0:1+1:1 = 23
            mix 0:1+1:1 ! ISE
            reason = 4
            account 6 = 24
            == 3 reason 4: there is room again behind undo
            times 22 mix 0:1+1:1
            mix 0:1+1:1 ! ISE
            undo = 7
            mix 0:1+1:1 = 23
            """);
    }

    private static void blendRefusalsTogether() {
        Script.playAll(CHAIN, """
            == 3 reasons 1 and 2: no such lot
            mix 2:101+6:1 ! ISE
            reason = 1
            mix 6:1+2:101 ! ISE
            reason = 1
            == 3 reasons 1 and 2: the same lot with more than is left
            mix 2:101+2:1 ! ISE
            reason = 1
            == 3 reasons 1 and 2: the same lot with more than is left together
            mix 2:60+2:60 ! ISE
            reason = 1
            == 3 reasons 1 and 3: no such lot
            mix 5:1+6:1 ! ISE
            reason = 1
            == 3 reasons 1 and 3: the same lot
            mix 5:1+5:1 ! ISE
            reason = 1
            == 3 reasons 2 and 3: of two parts
            mix 5:1+2:101 ! ISE
            reason = 2
            mix 2:101+5:1 ! ISE
            reason = 2
            == 3 reasons 2 and 3: of one part
            mix 5:201+0:1 ! ISE
            reason = 2
            mix 5:200+0:1 ! ISE
            reason = 3
            == 3 reasons 1, 2 and 3
            mix 5:201+6:1 ! ISE
            reason = 1
            """);
        Script.playAll(FULL, """
            == 3 reasons 1 and 4: no such lot
            mix 0:1+24:1 ! ISE
            reason = 1
            == 3 reasons 1 and 4: the same lot
            mix 0:1+0:1 ! ISE
            reason = 1
            == 3 reasons 2 and 4
            mix 0:1+2:3 ! ISE
            reason = 2
            mix 0:1+2:2 ! ISE
            reason = 4
            """);
        Script.playAll(FULL_CHAIN, """
            == 3 reasons 3 and 4
            mix 5:1+0:1 ! ISE
            reason = 3
            mix 4:1+0:1 ! ISE
            reason = 4
            == 3 reasons 2, 3 and 4
            mix 5:201+0:1 ! ISE
            reason = 2
            == 3 reasons 1 to 4
            mix 5:201+24:1 ! ISE
            reason = 1
            """);
    }

    private static void blendAheadOfRefusals() {
        Script.playAll(FULL_CHAIN, """
            == 3 0 quarters come ahead of reason 1
            mix 0:1+24:0 ! IAE
            mix 0:0+0:1 ! IAE
            reason ! NSEE
            == 3 0 quarters come ahead of reason 2
            mix 2:101+0:0 ! IAE
            reason ! NSEE
            == 3 0 quarters come ahead of reason 3
            mix 5:1+0:0 ! IAE
            reason ! NSEE
            == 3 0 quarters come ahead of reason 4
            mix 0:0+1:1 ! IAE
            reason ! NSEE
            == 3 an error comes ahead of 0 quarters
            mix 0:0+1: ! IAE
            errorPosition = 6
            == 3 an error comes ahead of reason 1
            mix 24:1+24:1x ! IAE
            errorPosition = 9
            reason ! NSEE
            == 3 an error comes ahead of reason 2
            mix 2:101+0: ! IAE
            errorPosition = 8
            reason ! NSEE
            == 3 an error comes ahead of reason 3
            mix 5:1+0: ! IAE
            errorPosition = 6
            reason ! NSEE
            == 3 an error comes ahead of reason 4
            mix 0:1+1:01 ! IAE
            errorPosition = 7
            reason ! NSEE
            == 3 a refusal keeps no error position
            mix 0:1+0:1 ! ISE
            mix 2:101+0:1 ! ISE
            mix 5:1+0:1 ! ISE
            mix 0:1+1:1 ! ISE
            errorPosition ! NSEE
            == 3 a refusal leaves the error position that was kept
            mix 0:1+x ! IAE
            mix 0:1+1:1 ! ISE
            errorPosition = 4
            == 3 0 quarters and errors leave the reason that was kept
            mix 5:1+0:1 ! ISE
            mix 0:0+1:1 ! IAE
            reason = 3
            mix 0:1 ! IAE
            reason = 3
            == 3 a refusal changes nothing
            mix 0:5+0:6 ! ISE
            mix 0:5+2:101 ! ISE
            mix 0:5+5:1 ! ISE
            mix 0:5+1:1 ! ISE
            lot 0 1 = 9681
            lot 1 1 = 9781
            lot 5 1 = 200
            lot 0 6 = 21
            account 6 = 24
            account 10 = 8
            undo = 7
            account 6 = 23
            """);
    }

    private static void blendOfAllThatIsLeft() {
        Script.playAll(FOUR, """
            == 3 a blend may take all that is left
            mix 0:9999+1:9999 = 4
            lot 0 1 = 0
            lot 1 1 = 0
            == 3 behind all that is left there is nothing more
            mix 0:9999+1:1 = 4
            mix 0:1+1:1 ! ISE
            reason = 2
            == 3 what was spilled is not left
            spill 0 9990 = 9
            mix 0:10+1:1 ! ISE
            reason = 2
            mix 0:9+1:1 = 4
            == 3 what was bottled is not left
            bottle 0 3330 -1 -1 -1 -1 = 0
            mix 0:10+1:1 ! ISE
            reason = 2
            mix 0:9+1:1 = 4
            == 3 what a blend took is not left
            mix 0:9990+1:1 = 4
            mix 0:10+1:1 ! ISE
            reason = 2
            mix 0:9+1:1 = 5
            == 3 a lot and the blend that it is a part of can be blended
            mix 0:10+1:10 = 4
            mix 4:20+0:10 = 5
            lot 5 0 = 30
            lot 5 3 = 2
            lot 4 1 = 0
            """);
    }

    private static void spill() {
        Script.playAll(FOUR, """
            == 4 the lot 0 is right, -1 is not
            spill -1 1 ! IOOBE
            spill 0 1 = 9998
            == 4 the lot 3 is right, 4 is not
            spill 4 1 ! IOOBE
            spill 3 1 = 9998
            == 4 the least and the greatest int are no lots
            spill -2147483648 1 ! IOOBE
            spill 2147483647 1 ! IOOBE
            == 4 1 quarter is right, 0 and -1 are not
            spill 0 0 ! IAE
            spill 0 -1 ! IAE
            spill 0 1 = 9998
            == 4 9999 quarters are right, 10000 are not, also when more are left
            mix 0:9999+1:9999 = 4
            spill 4 10000 ! IAE
            spill 4 9999 = 9999
            spill 4 9999 = 0
            == 4 all that is left can be spilled, one more can not
            spill 0 9000 = 999
            spill 0 1000 ! IAE
            spill 0 999 = 0
            == 4 out of a lot of which nothing is left nothing can be spilled
            spill 0 9999 = 0
            spill 0 1 ! IAE
            == 4 the least and the greatest int are out of range
            spill 0 -2147483648 ! IAE
            spill 0 2147483647 ! IAE
            == 4 no such lot comes ahead of a wrong number
            spill 4 0 ! IOOBE
            spill -1 0 ! IOOBE
            spill 4 10000 ! IOOBE
            == 4 a spill that throws changes nothing
            spill 0 10 = 9989
            spill 0 9990 ! IAE
            spill 0 0 ! IAE
            spill 4 1 ! IOOBE
            lot 0 1 = 9989
            account 3 = 10
            account 10 = 5
            reason ! NSEE
            undo = 4
            lot 0 1 = 9999
            == 4 what is spilled leaves the quarters when the lot was made
            spill 0 9999 = 0
            lot 0 0 = 9999
            lot 0 1 = 0
            """);
    }

    private static void lot() {
        Script.playAll(CHAIN, """
            == 5 the lot 0 is right, -1 is not
            lot -1 0 ! IOOBE
            lot 0 0 = 9999
            == 5 the lot 5 is right, 6 is not
            lot 6 0 ! IOOBE
            lot 5 0 = 200
            == 5 what is 0, not -1
            lot 0 -1 ! IAE
            lot 0 0 = 9999
            == 5 what is 6, not 7
            lot 0 7 ! IAE
            lot 0 6 = 3
            == 5 no such lot comes ahead of a wrong what
            lot -1 -1 ! IOOBE
            lot 6 7 ! IOOBE
            == 5 the least and the greatest int
            lot -2147483648 0 ! IOOBE
            lot 2147483647 0 ! IOOBE
            lot 0 -2147483648 ! IAE
            lot 0 2147483647 ! IAE
            == 5 a harvest has 0 parts, the generation 0 and the number of its harvest
            lot 1 2 = 0
            lot 1 3 = 0
            lot 1 4 = 1
            == 5 the lot 0 is the harvest 0, and a blend is the harvest -1
            lot 0 4 = 0
            lot 2 4 = -1
            == 5 a blend has 2 to 4 parts
            mix 0:1+1:1+2:1 = 6
            mix 0:1+1:1+2:1+3:1 = 7
            lot 2 2 = 2
            lot 6 2 = 3
            lot 7 2 = 4
            == 5 the generations 0 to 4
            lot 0 3 = 0
            lot 2 3 = 1
            lot 3 3 = 2
            lot 4 3 = 3
            lot 5 3 = 4
            == 5 a harvest has a share of 1 harvest
            lot 0 5 = 1
            == 5 a harvest with the share 0 does not count
            mix 0:1+1:9000 = 6
            share 6 0 0 = 0
            lot 6 5 = 1
            == 5 a harvest with the share 1 counts
            mix 0:1+1:999 = 6
            share 6 0 0 = 1
            lot 6 5 = 2
            == 5 a lot is a part of a blend only directly
            lot 2 6 = 1
            lot 3 6 = 1
            lot 4 6 = 1
            lot 1 6 = 2
            == 5 a lot that is a part of no blend
            lot 5 6 = 0
            == 5 a lot of which nothing is left is still a part
            mix 2:100+0:1 = 6
            lot 2 1 = 0
            lot 2 6 = 2
            == 5 a refused blend has no parts
            mix 5:1+0:1 ! ISE
            lot 5 6 = 0
            lot 0 6 = 3
            """);
        Script.playAll(FULL, """
            == 5 the lot 23 is right, 24 is not
            lot 24 0 ! IOOBE
            lot 23 0 = 2
            == 5 a lot that is a part of 22 blends
            lot 0 6 = 22
            lot 1 6 = 22
            lot 23 6 = 0
            """);
        Script.playAll(TWELVE, """
            == 5 a lot of 12 harvests
            mix 12:1+13:1+14:1 = 15
            lot 15 5 = 12
            lot 12 5 = 4
            """);
    }

    private static void part() {
        Script.playAll(FOUR + """
            mix 3:7+1:5 = 4
            mix 2:1+4:2+0:3+3:4 = 5
            """, """
            == 6 the lot 5 is right, 6 and -1 are not
            part 6 0 0 ! IOOBE
            part -1 0 0 ! IOOBE
            part 5 0 0 = 2
            == 6 the part 0 is right, -1 is not
            part 4 -1 0 ! NSEE
            part 4 0 0 = 3
            == 6 of 2 parts the part 1 is right, 2 is not
            part 4 2 0 ! NSEE
            part 4 1 0 = 1
            == 6 of 4 parts the part 3 is right, 4 is not
            part 5 4 0 ! NSEE
            part 5 3 0 = 3
            == 6 a harvest has no part 0
            part 0 0 0 ! NSEE
            part 3 0 1 ! NSEE
            == 6 what is 0, not -1
            part 4 0 -1 ! IAE
            part 4 0 0 = 3
            == 6 what is 1, not 2
            part 4 0 2 ! IAE
            part 4 0 1 = 7
            == 6 the order is that of the text
            part 5 0 0 = 2
            part 5 0 1 = 1
            part 5 1 0 = 4
            part 5 1 1 = 2
            part 5 2 0 = 0
            part 5 2 1 = 3
            part 5 3 0 = 3
            part 5 3 1 = 4
            == 6 no such lot comes ahead of no such part
            part 6 9 0 ! IOOBE
            part -1 -1 0 ! IOOBE
            == 6 no such lot comes ahead of a wrong what
            part 6 0 2 ! IOOBE
            part -1 0 -1 ! IOOBE
            == 6 no such part comes ahead of a wrong what
            part 4 2 2 ! NSEE
            part 4 -1 -1 ! NSEE
            part 0 0 2 ! NSEE
            == 6 all three are wrong
            part 6 -1 2 ! IOOBE
            == 6 the least and the greatest int
            part -2147483648 0 0 ! IOOBE
            part 2147483647 0 0 ! IOOBE
            part 4 -2147483648 0 ! NSEE
            part 4 2147483647 0 ! NSEE
            part 4 0 -2147483648 ! IAE
            part 4 0 2147483647 ! IAE
            == 6 quarters of a part stay when the lot loses some
            spill 4 6 = 4
            part 4 0 1 = 7
            part 5 1 1 = 2
            """);
    }

    private static void shareArguments() {
        Script.playAll(TWO + """
            mix 0:300+1:700 = 2
            harvest 99 4 3 5 = 3
            """, """
            == 7 the lot 0 is right, -1 is not
            share -1 0 0 ! IOOBE
            share 0 0 0 = 1000
            == 7 the lot 3 is right, 4 is not
            share 4 0 0 ! IOOBE
            share 3 0 2 = 1000
            == 7 what is 0, not -1
            share 2 -1 0 ! IAE
            share 2 0 0 = 300
            == 7 what is 3, not 4
            share 2 4 0 ! IAE
            share 2 3 0 = 300
            == 7 the harvest 0 is right, -1 is not
            share 2 0 -1 ! IAE
            share 2 0 0 = 300
            == 7 the harvest 2 is right, 3 is not, though there is a lot 3
            share 3 0 3 ! IAE
            share 3 0 2 = 1000
            == 7 the vintage 0 is right, -1 is not
            share 2 1 -1 ! IAE
            share 2 1 0 = 0
            == 7 the vintage 99 is right, 100 is not
            share 3 1 100 ! IAE
            share 3 1 99 = 1000
            == 7 the grape 0 is right, -1 is not
            share 2 2 -1 ! IAE
            share 2 2 0 = 300
            == 7 the grape 4 is right, 5 is not
            share 3 2 5 ! IAE
            share 3 2 4 = 1000
            == 7 the region 0 is right, -1 is not
            share 2 3 -1 ! IAE
            share 2 3 0 = 300
            == 7 the region 3 is right, 4 is not
            share 3 3 4 ! IAE
            share 3 3 3 = 1000
            == 7 no such lot comes ahead of a wrong what
            share 4 4 0 ! IOOBE
            share -1 -1 0 ! IOOBE
            == 7 no such lot comes ahead of a wrong number
            share 4 0 9 ! IOOBE
            share 4 1 100 ! IOOBE
            share 4 2 5 ! IOOBE
            share 4 3 4 ! IOOBE
            == 7 the least and the greatest int
            share -2147483648 0 0 ! IOOBE
            share 2147483647 0 0 ! IOOBE
            share 2 -2147483648 0 ! IAE
            share 2 2147483647 0 ! IAE
            share 2 0 -2147483648 ! IAE
            share 2 0 2147483647 ! IAE
            share 2 1 -2147483648 ! IAE
            share 2 1 2147483647 ! IAE
            share 2 2 2147483647 ! IAE
            share 2 3 2147483647 ! IAE
            == 7 a harvest that came later has the share 0
            share 2 0 2 = 0
            share 2 1 99 = 0
            == 7 a harvest has the share 1000 of itself and 0 of the others
            share 0 0 0 = 1000
            share 0 0 1 = 0
            share 1 0 0 = 0
            share 1 0 1 = 1000
            == 7 a harvest of which nothing is left has its share
            spill 3 5 = 0
            share 3 0 2 = 1000
            """);
        Script.playAll("""
            times 11 harvest 0 0 0 10
            harvest 7 1 1 10 = 11
            """, """
            == 7 the harvest 11 is right, 12 is not
            share 11 0 12 ! IAE
            share 11 0 11 = 1000
            """);
    }

    private static void shareRounding() {
        Script.playAll(FOUR, """
            == 7 no thousandth is missing
            mix 0:1+1:3 = 4
            share 4 0 0 = 250
            share 4 0 1 = 750
            == 7 one is missing, of the same remainders the lowest harvest gets it
            mix 2:1+1:1+0:1 = 4
            share 4 0 0 = 334
            share 4 0 1 = 333
            share 4 0 2 = 333
            == 7 one is missing, the greatest remainder gets it
            mix 0:1+1:2 = 4
            share 4 0 0 = 333
            share 4 0 1 = 667
            == 7 two are missing
            mix 0:6+1:2+2:2+3:2 = 4
            share 4 0 0 = 500
            share 4 0 1 = 167
            share 4 0 2 = 167
            share 4 0 3 = 166
            == 7 three are missing
            mix 0:4+1:1+2:1+3:1 = 4
            share 4 0 0 = 571
            share 4 0 1 = 143
            share 4 0 2 = 143
            share 4 0 3 = 143
            == 7 half a thousandth: the lowest harvest gets the missing one
            mix 0:1+1:1999 = 4
            share 4 0 0 = 1
            share 4 0 1 = 999
            mix 1:1+0:1999 = 5
            share 5 0 0 = 1000
            share 5 0 1 = 0
            == 7 less than half a thousandth is 0
            mix 0:1+1:2000 = 4
            share 4 0 0 = 0
            share 4 0 1 = 1000
            == 7 more than half a thousandth is 1
            mix 0:1+1:1998 = 4
            share 4 0 0 = 1
            share 4 0 1 = 999
            == 7 the least total: two quarters of lots with odd shares
            mix 0:1+1:1+2:1 = 4
            mix 4:1+2:1 = 5
            share 5 0 0 = 167
            share 5 0 1 = 167
            share 5 0 2 = 666
            == 7 a harvest with a few quarters has the share 0
            mix 0:4+1:9999 = 4
            share 4 0 0 = 0
            share 4 0 1 = 1000
            share 4 1 10 = 0
            share 4 2 0 = 0
            share 4 3 0 = 0
            == 7 a share of 0 stays 0 in what is blended from it
            mix 0:1+1:9000 = 4
            mix 4:9000+2:1 = 5
            share 5 0 0 = 0
            share 5 0 1 = 1000
            share 5 0 2 = 0
            == 7 the greatest sums: 9999 quarters of each of 4 parts
            mix 0:9999+1:9999+2:9999+3:9999 = 4
            share 4 0 0 = 250
            share 4 0 3 = 250
            == 7 shares that are the sum of several harvests
            harvest 10 4 0 9999 = 4
            mix 0:1+4:1+1:1 = 5
            share 5 0 0 = 334
            share 5 0 2 = 0
            share 5 0 4 = 333
            share 5 1 10 = 667
            share 5 3 0 = 667
            share 5 2 0 = 334
            share 5 2 4 = 333
            """);
        Script.playAll(TWELVE, """
            == 7 four are missing among twelve, the same remainders all
            mix 12:1+13:1+14:1 = 15
            share 15 0 0 = 84
            share 15 0 3 = 84
            share 15 0 4 = 83
            share 15 0 11 = 83
            share 15 1 0 = 1000
            == 7 eight are missing among twelve
            mix 12:5+13:1+14:1 = 15
            share 15 0 0 = 178
            share 15 0 3 = 178
            share 15 0 4 = 36
            share 15 0 7 = 36
            share 15 0 8 = 36
            share 15 0 11 = 36
            share 15 2 0 = 1000
            """);
        Script.play("7 ten are missing among twelve", """
            times 12 harvest 0 0 0 1000
            mix 0:9+1:4+2:7+3:4 = 12
            mix 4:11+5:5+6:7+7:1 = 13
            mix 8:5+9:7+10:7+11:7 = 14
            share 13 0 7 = 42
            share 14 0 8 = 193
            mix 12:5+13:8+14:6 = 15
            # the harvest 5 has the least remainder; 0, 3 and 7 have the next one, and 7 gets none
            share 15 0 0 = 99
            share 15 0 1 = 44
            share 15 0 2 = 77
            share 15 0 3 = 44
            share 15 0 4 = 193
            share 15 0 5 = 87
            share 15 0 6 = 123
            share 15 0 7 = 17
            share 15 0 8 = 61
            share 15 0 9 = 85
            share 15 0 10 = 85
            share 15 0 11 = 85
            """);
    }

    private static void greatest() {
        Script.playAll(FOUR + """
            mix 0:1+1:3+2:3+3:5 = 4
            """, """
            == 8 the lot 4 is right, 5 and -1 are not
            greatest 5 0 ! IOOBE
            greatest -1 0 ! IOOBE
            greatest 4 0 = 3
            == 8 the index 0 is right, -1 is not
            greatest 4 -1 ! NSEE
            greatest 4 0 = 3
            == 8 of 4 harvests the index 3 is right, 4 is not
            greatest 4 4 ! NSEE
            greatest 4 3 = 0
            == 8 of the same shares the lowest number comes first
            greatest 4 1 = 1
            greatest 4 2 = 2
            == 8 a harvest has itself alone
            greatest 2 0 = 2
            greatest 2 1 ! NSEE
            == 8 a harvest with the share 0 is not counted
            mix 0:1+1:9000 = 5
            greatest 5 0 = 1
            greatest 5 1 ! NSEE
            == 8 a harvest with the share 1 is counted
            mix 0:1+1:999 = 5
            greatest 5 0 = 1
            greatest 5 1 = 0
            greatest 5 2 ! NSEE
            == 8 no such lot comes ahead of no such index
            greatest 5 -1 ! IOOBE
            greatest -1 9 ! IOOBE
            == 8 the least and the greatest int
            greatest -2147483648 0 ! IOOBE
            greatest 2147483647 0 ! IOOBE
            greatest 4 -2147483648 ! NSEE
            greatest 4 2147483647 ! NSEE
            """);
        Script.playAll(TWELVE, """
            == 8 of 12 harvests the index 11 is right, 12 is not
            mix 14:5+13:1+12:1 = 15
            greatest 15 12 ! NSEE
            greatest 15 0 = 8
            greatest 15 3 = 11
            greatest 15 4 = 0
            greatest 15 11 = 7
            """);
    }

    private static void meanVintage() {
        Script.playAll("""
            harvest 0 0 0 9999 = 0
            harvest 99 0 0 9999 = 1
            harvest 1 0 0 9999 = 2
            """, """
            == 9 the lot 0 is right, -1 is not
            meanVintage -1 ! IOOBE
            meanVintage 0 = 0.0
            == 9 the lot 2 is right, 3 is not
            meanVintage 3 ! IOOBE
            meanVintage 2 = 1.0
            == 9 the least and the greatest int are no lots
            meanVintage -2147483648 ! IOOBE
            meanVintage 2147483647 ! IOOBE
            == 9 the least mean is 0 and the greatest is 99
            meanVintage 0 = 0.0
            meanVintage 1 = 99.0
            == 9 the least mean above 0
            mix 0:999+2:1 = 3
            meanVintage 3 = 0.001
            == 9 the greatest mean below 99
            harvest 98 0 0 1 = 3
            mix 1:999+3:1 = 4
            meanVintage 4 = 98.999
            == 9 a share of 0 adds nothing
            mix 1:1+0:9000 = 3
            meanVintage 3 = 0.0
            == 9 the mean is that of the shares, not of the quarters
            mix 0:2+1:1 = 3
            share 3 0 1 = 333
            meanVintage 3 = 32.967
            == 9 a lot of which nothing is left has its mean
            spill 1 9999 = 0
            meanVintage 1 = 99.0
            """);
    }
}
