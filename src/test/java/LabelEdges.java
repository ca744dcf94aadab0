/** The edges of the promises 10 to 14, each in a script of its own. */
final class LabelEdges {
    private static final String THREE = """
        harvest 10 0 0 9999 = 0
        harvest 20 1 1 9999 = 1
        harvest 30 2 2 9999 = 2
        """;
    /** The shares of lot 3 are 600, 250 and 150; 2000 quarters are left in it. */
    private static final String MIXED = THREE + """
        mix 0:1200+1:500+2:300 = 3
        """;
    /** 952 quarters are left in lot 0, the vintage 10 of the grape 2 and the region 1. */
    private static final String FULL = """
        harvest 10 2 1 1000 = 0
        times 16 bottle 0 1 10 -1 -1 -1
        account 8 = 16
        """;

    private LabelEdges() {
    }

    static void playAll() {
        setLaw();
        bottleNumbers();
        bottleGrapes();
        bottleOrder();
        bottleRefusalsAlone();
        bottleRefusalsTogether();
        bottleRoom();
        forbidsNumbers();
        forbidsVintagesAndRegions();
        forbidsOneGrape();
        forbidsTwoGrapes();
        forbidsOrder();
        bottlingNumbers();
        bottlingAndTheLaw();
        reasons();
        reasonsThatStay();
    }

    private static void setLaw() {
        Script.playAll("", """
            == 10 the threshold 0 is there, -1 is not
            setLaw -1 600 ! IOOBE
            setLaw 0 600 = 850
            == 10 the threshold 2 is there, 3 is not
            setLaw 3 600 ! IOOBE
            setLaw 2 600 = 750
            == 10 500 is right, 499 is not
            setLaw 0 499 ! IAE
            setLaw 1 499 ! IAE
            setLaw 2 499 ! IAE
            setLaw 0 500 = 850
            setLaw 1 500 = 850
            setLaw 2 500 = 750
            == 10 1000 is right, 1001 is not
            setLaw 0 1001 ! IAE
            setLaw 1 1001 ! IAE
            setLaw 2 1001 ! IAE
            setLaw 0 1000 = 850
            setLaw 1 1000 = 850
            setLaw 2 1000 = 750
            == 10 0 and -500 are out of range
            setLaw 0 0 ! IAE
            setLaw 0 -500 ! IAE
            == 10 the least and the greatest int
            setLaw -2147483648 600 ! IOOBE
            setLaw 2147483647 600 ! IOOBE
            setLaw 0 -2147483648 ! IAE
            setLaw 0 2147483647 ! IAE
            == 10 no such threshold comes ahead of a wrong number
            setLaw 3 499 ! IOOBE
            setLaw -1 1001 ! IOOBE
            == 10 each threshold stands alone
            setLaw 1 500 = 850
            setLaw 0 600 = 850
            setLaw 2 700 = 750
            setLaw 1 800 = 500
            setLaw 0 850 = 600
            setLaw 2 750 = 700
            == 10 the same number again is a change
            setLaw 0 850 = 850
            account 10 = 1
            == 10 a call that throws changes nothing
            setLaw 0 1001 ! IAE
            setLaw 3 600 ! IOOBE
            account 10 = 0
            reason ! NSEE
            setLaw 0 850 = 850
            setLaw 1 850 = 850
            setLaw 2 750 = 750
            """);
    }

    private static void bottleNumbers() {
        Script.playAll(THREE, """
            == 11 the lot 0 is right, -1 is not
            bottle -1 1 -1 -1 -1 -1 ! IOOBE
            bottle 0 1 -1 -1 -1 -1 = 0
            == 11 the lot 2 is right, 3 is not
            bottle 3 1 -1 -1 -1 -1 ! IOOBE
            bottle 2 1 -1 -1 -1 -1 = 0
            == 11 1 bottle is right, 0 and -1 are not
            bottle 0 0 -1 -1 -1 -1 ! IAE
            bottle 0 -1 -1 -1 -1 -1 ! IAE
            bottle 0 1 -1 -1 -1 -1 = 0
            lot 0 1 = 9996
            == 11 3333 bottles are right, 3334 are not
            bottle 0 3334 -1 -1 -1 -1 ! IAE
            bottle 0 3333 -1 -1 -1 -1 = 0
            lot 0 1 = 0
            == 11 3334 bottles are not, also when wine for them is left
            mix 0:9999+1:9999 = 3
            bottle 3 3334 -1 -1 -1 -1 ! IAE
            bottle 3 3333 -1 -1 -1 -1 = 0
            lot 3 1 = 9999
            == 11 a number of bottles that wraps around when it is multiplied by 3
            bottle 0 1431655766 -1 -1 -1 -1 ! IAE
            bottle 0 -1431655765 -1 -1 -1 -1 ! IAE
            reason ! NSEE
            == 11 the vintage -1 is right, -2 is not
            bottle 0 1 -2 -1 -1 -1 ! IAE
            bottle 0 1 -1 -1 -1 -1 = 0
            == 11 the vintage 99 is right, 100 is not
            harvest 99 0 0 3 = 3
            bottle 3 1 100 -1 -1 -1 ! IAE
            bottle 3 1 99 -1 -1 -1 = 0
            bottling 0 3 = 99
            == 11 the vintage 0 is named, -1 is none
            harvest 0 0 0 3 = 3
            bottle 0 1 0 -1 -1 -1 ! ISE
            reason = 6
            bottle 3 1 0 -1 -1 -1 = 0
            bottling 0 3 = 0
            == 11 the grape -1 is right, -2 is not
            bottle 0 1 -1 -2 -1 -1 ! IAE
            bottle 0 1 -1 -1 -1 -1 = 0
            == 11 the grape 4 is right, 5 is not
            harvest 0 4 0 3 = 3
            bottle 3 1 -1 5 -1 -1 ! IAE
            bottle 3 1 -1 4 -1 -1 = 0
            bottling 0 4 = 4
            == 11 the grape 0 is named, -1 is none
            bottle 1 1 -1 0 -1 -1 ! ISE
            reason = 7
            bottle 0 1 -1 0 -1 -1 = 0
            bottling 0 4 = 0
            == 11 the second grape -1 is right, -2 is not
            bottle 0 1 -1 0 -2 -1 ! IAE
            bottle 0 1 -1 0 -1 -1 = 0
            bottling 0 5 = -1
            == 11 the second grape 4 is right, 5 is not
            harvest 0 4 0 3 = 3
            mix 0:3+3:3 = 4
            bottle 4 1 -1 0 5 -1 ! IAE
            bottle 4 1 -1 0 4 -1 = 0
            bottling 0 5 = 4
            == 11 the second grape 0 is named, -1 is none
            mix 0:3+1:3 = 3
            bottle 3 1 -1 1 0 -1 = 0
            bottling 0 5 = 0
            == 11 the region -1 is right, -2 is not
            bottle 0 1 -1 -1 -1 -2 ! IAE
            bottle 0 1 -1 -1 -1 -1 = 0
            == 11 the region 3 is right, 4 is not
            harvest 0 0 3 3 = 3
            bottle 3 1 -1 -1 -1 4 ! IAE
            bottle 3 1 -1 -1 -1 3 = 0
            bottling 0 6 = 3
            == 11 the region 0 is named, -1 is none
            bottle 1 1 -1 -1 -1 0 ! ISE
            reason = 8
            bottle 0 1 -1 -1 -1 0 = 0
            bottling 0 6 = 0
            == 11 the least and the greatest int
            bottle -2147483648 1 -1 -1 -1 -1 ! IOOBE
            bottle 2147483647 1 -1 -1 -1 -1 ! IOOBE
            bottle 0 -2147483648 -1 -1 -1 -1 ! IAE
            bottle 0 2147483647 -1 -1 -1 -1 ! IAE
            bottle 0 1 -2147483648 -1 -1 -1 ! IAE
            bottle 0 1 2147483647 -1 -1 -1 ! IAE
            bottle 0 1 -1 -2147483648 -1 -1 ! IAE
            bottle 0 1 -1 2147483647 -1 -1 ! IAE
            bottle 0 1 -1 0 -2147483648 -1 ! IAE
            bottle 0 1 -1 0 2147483647 -1 ! IAE
            bottle 0 1 -1 -1 -1 -2147483648 ! IAE
            bottle 0 1 -1 -1 -1 2147483647 ! IAE
            """);
    }

    private static void bottleGrapes() {
        Script.playAll(MIXED, """
            == 11 no grape
            bottle 3 1 -1 -1 -1 -1 = 0
            == 11 a second grape without a first one
            bottle 3 1 -1 -1 0 -1 ! IAE
            bottle 3 1 -1 -1 1 -1 ! IAE
            bottle 3 1 -1 -1 4 -1 ! IAE
            == 11 both grapes are the same
            bottle 3 1 -1 0 0 -1 ! IAE
            bottle 0 1 -1 0 0 -1 ! IAE
            bottle 3 1 -1 4 4 -1 ! IAE
            == 11 two different grapes
            setLaw 1 850 = 850
            bottle 3 1 -1 0 1 -1 = 0
            bottling 0 4 = 0
            bottling 0 5 = 1
            """);
    }

    private static void bottleOrder() {
        Script.playAll(FULL, """
            == 11 no such lot comes ahead of each wrong number
            bottle 1 0 -1 -1 -1 -1 ! IOOBE
            bottle 1 1 100 -1 -1 -1 ! IOOBE
            bottle 1 1 -1 5 -1 -1 ! IOOBE
            bottle 1 1 -1 0 5 -1 ! IOOBE
            bottle 1 1 -1 -1 -1 4 ! IOOBE
            bottle -1 3334 -1 -1 -1 -1 ! IOOBE
            == 11 no such lot comes ahead of wrong grapes
            bottle 1 1 -1 -1 0 -1 ! IOOBE
            bottle 1 1 -1 2 2 -1 ! IOOBE
            == 11 no such lot comes ahead of refusals
            bottle 1 1 -1 -1 -1 -1 ! IOOBE
            reason ! NSEE
            == 11 a wrong number comes ahead of reason 5
            bottle 0 3333 100 -1 -1 -1 ! IAE
            bottle 0 3333 -1 5 -1 -1 ! IAE
            bottle 0 3333 -1 2 -2 -1 ! IAE
            bottle 0 3333 -1 -1 -1 4 ! IAE
            reason ! NSEE
            == 11 wrong grapes come ahead of reason 5
            bottle 0 3333 -1 -1 2 -1 ! IAE
            bottle 0 3333 -1 2 2 -1 ! IAE
            reason ! NSEE
            == 11 a wrong number comes ahead of reason 6
            bottle 0 1 99 5 -1 -1 ! IAE
            bottle 0 1 99 -1 -1 4 ! IAE
            bottle 0 0 99 -1 -1 -1 ! IAE
            bottle 0 1 99 2 2 -1 ! IAE
            reason ! NSEE
            == 11 a wrong number comes ahead of reason 7
            bottle 0 1 -1 0 -1 4 ! IAE
            bottle 0 0 -1 0 -1 -1 ! IAE
            bottle 0 1 -1 0 0 -1 ! IAE
            reason ! NSEE
            == 11 a wrong number comes ahead of reason 8
            bottle 0 0 -1 -1 -1 0 ! IAE
            bottle 0 1 100 -1 -1 0 ! IAE
            bottle 0 1 -1 -1 2 0 ! IAE
            reason ! NSEE
            == 11 a wrong number comes ahead of reason 9
            bottle 0 0 -1 -1 -1 -1 ! IAE
            bottle 0 1 -2 -1 -1 -1 ! IAE
            bottle 0 1 -1 -1 2 -1 ! IAE
            reason ! NSEE
            """);
    }

    private static void bottleRefusalsAlone() {
        Script.playAll(MIXED, """
            == 11 reason 5: as many quarters as the bottles take are right, one less is not
            spill 3 1994 = 6
            bottle 3 2 -1 -1 -1 -1 = 0
            undo = 5
            spill 3 1 = 5
            bottle 3 2 -1 -1 -1 -1 ! ISE
            reason = 5
            == 11 reason 5: 1 bottle takes 3 quarters
            spill 3 1998 = 2
            bottle 3 1 -1 -1 -1 -1 ! ISE
            reason = 5
            == 11 reason 5: nothing is left
            spill 3 2000 = 0
            bottle 3 1 -1 -1 -1 -1 ! ISE
            reason = 5
            == 11 reason 5: the greatest number of bottles
            bottle 3 3333 -1 -1 -1 -1 ! ISE
            reason = 5
            == 11 reason 6 alone
            bottle 3 666 10 -1 -1 -1 ! ISE
            reason = 6
            setLaw 0 600 = 850
            bottle 3 666 10 -1 -1 -1 = 0
            == 11 reason 7 alone, for one grape
            bottle 3 666 -1 0 -1 -1 ! ISE
            reason = 7
            setLaw 1 600 = 850
            bottle 3 666 -1 0 -1 -1 = 0
            == 11 reason 7 alone, for two grapes
            bottle 3 666 -1 0 2 -1 ! ISE
            reason = 7
            setLaw 1 750 = 850
            bottle 3 666 -1 0 2 -1 = 0
            == 11 reason 8 alone
            bottle 3 666 -1 -1 -1 0 ! ISE
            reason = 8
            setLaw 2 600 = 750
            bottle 3 666 -1 -1 -1 0 = 0
            """);
        Script.playAll(FULL, """
            == 11 reason 9 alone
            bottle 0 1 -1 -1 -1 -1 ! ISE
            reason = 9
            bottle 0 317 10 2 -1 1 ! ISE
            reason = 9
            """);
    }

    private static void bottleRefusalsTogether() {
        Script.playAll(MIXED, """
            == 11 reasons 5 and 6
            bottle 3 667 10 -1 -1 -1 ! ISE
            reason = 5
            == 11 reasons 5 and 7
            bottle 3 667 -1 0 -1 -1 ! ISE
            reason = 5
            == 11 reasons 5 and 8
            bottle 3 667 -1 -1 -1 0 ! ISE
            reason = 5
            == 11 reasons 6 and 7
            bottle 3 666 10 0 -1 -1 ! ISE
            reason = 6
            == 11 reasons 6 and 8
            bottle 3 666 10 -1 -1 0 ! ISE
            reason = 6
            == 11 reasons 7 and 8
            bottle 3 666 -1 0 -1 0 ! ISE
            reason = 7
            == 11 reasons 6, 7 and 8
            bottle 3 666 10 0 -1 0 ! ISE
            reason = 6
            == 11 a refusal changes nothing
            bottle 3 667 -1 -1 -1 -1 ! ISE
            bottle 3 1 10 -1 -1 -1 ! ISE
            bottle 3 1 -1 0 -1 -1 ! ISE
            bottle 3 1 -1 -1 -1 0 ! ISE
            lot 3 1 = 2000
            account 2 = 0
            account 4 = 0
            account 8 = 0
            account 10 = 4
            """);
        Script.playAll(FULL, """
            == 11 reasons 5 and 9
            bottle 0 318 10 2 -1 1 ! ISE
            reason = 5
            == 11 reasons 6 and 9
            bottle 0 1 11 2 -1 1 ! ISE
            reason = 6
            == 11 reasons 7 and 9
            bottle 0 1 10 1 -1 1 ! ISE
            reason = 7
            == 11 reasons 8 and 9
            bottle 0 1 10 2 -1 0 ! ISE
            reason = 8
            == 11 reasons 5 to 9
            bottle 0 318 11 1 -1 0 ! ISE
            reason = 5
            == 11 reason 9 changes nothing
            bottle 0 1 -1 -1 -1 -1 ! ISE
            lot 0 1 = 952
            account 8 = 16
            account 10 = 8
            undo = 7
            lot 0 1 = 955
            account 8 = 15
            """);
    }

    private static void bottleRoom() {
        Script.playAll("", """
            == 11 the 16th bottling finds room, the 17th does not
            harvest 10 2 1 1000 = 0
            times 15 bottle 0 1 -1 -1 -1 -1
            bottle 0 1 -1 -1 -1 -1 = 15
            bottle 0 1 -1 -1 -1 -1 ! ISE
            reason = 9
            == 11 bottlings of which nothing is in stock take room
            harvest 10 2 1 1000 = 0
            times 16 bottle 0 1 -1 -1 -1 -1
            addCustomer 0 = 0
            wish 0 3 1 = 0
            serve 3 = 1
            bottle 0 1 -1 -1 -1 -1 ! ISE
            reason = 9
            == 11 there is room again behind undo
            harvest 10 2 1 1000 = 0
            times 16 bottle 0 1 -1 -1 -1 -1
            undo = 7
            bottle 0 2 -1 -1 -1 -1 = 15
            bottling 15 1 = 2
            bottle 0 1 -1 -1 -1 -1 ! ISE
            """);
    }

    private static void forbidsNumbers() {
        Script.playAll(THREE, """
            == 12 the lot 0 is right, -1 is not
            forbids -1 -1 -1 -1 -1 ! IOOBE
            forbids 0 -1 -1 -1 -1 = 0
            == 12 the lot 2 is right, 3 is not
            forbids 3 -1 -1 -1 -1 ! IOOBE
            forbids 2 -1 -1 -1 -1 = 0
            == 12 the vintage -1 is right, -2 is not
            forbids 0 -2 -1 -1 -1 ! IAE
            forbids 0 -1 -1 -1 -1 = 0
            == 12 the vintage 99 is right, 100 is not
            forbids 0 100 -1 -1 -1 ! IAE
            forbids 0 99 -1 -1 -1 = 6
            == 12 the vintage 0 is named, -1 is none
            forbids 0 0 -1 -1 -1 = 6
            forbids 0 -1 -1 -1 -1 = 0
            == 12 the grape -1 is right, -2 is not
            forbids 0 -1 -2 -1 -1 ! IAE
            forbids 0 -1 -1 -1 -1 = 0
            == 12 the grape 4 is right, 5 is not
            forbids 0 -1 5 -1 -1 ! IAE
            forbids 0 -1 4 -1 -1 = 7
            == 12 the grape 0 is named, -1 is none
            forbids 1 -1 0 -1 -1 = 7
            forbids 1 -1 -1 -1 -1 = 0
            == 12 the second grape -1 is right, -2 is not
            forbids 0 -1 0 -2 -1 ! IAE
            forbids 0 -1 0 -1 -1 = 0
            == 12 the second grape 4 is right, 5 is not
            forbids 0 -1 0 5 -1 ! IAE
            forbids 0 -1 0 4 -1 = 7
            == 12 the second grape 0 is named, -1 is none
            forbids 1 -1 1 0 -1 = 7
            forbids 1 -1 1 -1 -1 = 0
            == 12 the region -1 is right, -2 is not
            forbids 0 -1 -1 -1 -2 ! IAE
            forbids 0 -1 -1 -1 -1 = 0
            == 12 the region 3 is right, 4 is not
            forbids 0 -1 -1 -1 4 ! IAE
            forbids 0 -1 -1 -1 3 = 8
            == 12 the region 0 is named, -1 is none
            forbids 1 -1 -1 -1 0 = 8
            forbids 1 -1 -1 -1 -1 = 0
            == 12 a second grape without a first one
            forbids 0 -1 -1 0 -1 ! IAE
            forbids 0 -1 -1 4 -1 ! IAE
            == 12 both grapes are the same
            forbids 0 -1 0 0 -1 ! IAE
            forbids 0 -1 4 4 -1 ! IAE
            == 12 no such lot comes ahead of a wrong number
            forbids 3 100 -1 -1 -1 ! IOOBE
            forbids 3 -1 5 -1 -1 ! IOOBE
            forbids 3 -1 0 5 -1 ! IOOBE
            forbids 3 -1 -1 -1 4 ! IOOBE
            == 12 no such lot comes ahead of wrong grapes
            forbids 3 -1 -1 0 -1 ! IOOBE
            forbids -1 -1 0 0 -1 ! IOOBE
            == 12 a wrong number comes ahead of each reason
            forbids 0 99 5 -1 -1 ! IAE
            forbids 0 99 -1 -1 4 ! IAE
            forbids 0 99 0 0 -1 ! IAE
            forbids 0 -1 1 -1 4 ! IAE
            forbids 0 -1 1 1 -1 ! IAE
            forbids 0 100 -1 -1 1 ! IAE
            forbids 0 -1 -1 1 1 ! IAE
            == 12 the least and the greatest int
            forbids -2147483648 -1 -1 -1 -1 ! IOOBE
            forbids 2147483647 -1 -1 -1 -1 ! IOOBE
            forbids 0 -2147483648 -1 -1 -1 ! IAE
            forbids 0 2147483647 -1 -1 -1 ! IAE
            forbids 0 -1 -2147483648 -1 -1 ! IAE
            forbids 0 -1 2147483647 -1 -1 ! IAE
            forbids 0 -1 0 -2147483648 -1 ! IAE
            forbids 0 -1 0 2147483647 -1 ! IAE
            forbids 0 -1 -1 -1 -2147483648 ! IAE
            forbids 0 -1 -1 -1 2147483647 ! IAE
            """);
    }

    private static void forbidsVintagesAndRegions() {
        Script.playAll(THREE, """
            == 12 the vintage has the threshold, and one less
            mix 0:850+1:150 = 3
            mix 0:849+1:151 = 4
            forbids 3 10 -1 -1 -1 = 0
            forbids 4 10 -1 -1 -1 = 6
            == 12 the vintage has the least threshold, and one less
            setLaw 0 500 = 850
            mix 0:500+1:500 = 3
            mix 0:499+1:501 = 4
            forbids 3 10 -1 -1 -1 = 0
            forbids 3 20 -1 -1 -1 = 0
            forbids 4 10 -1 -1 -1 = 6
            == 12 the vintage has the greatest threshold, and one less
            setLaw 0 1000 = 850
            mix 0:999+1:1 = 3
            forbids 0 10 -1 -1 -1 = 0
            forbids 3 10 -1 -1 -1 = 6
            == 12 the vintage of several harvests
            harvest 10 3 3 9999 = 3
            mix 0:425+3:425+1:150 = 4
            mix 0:425+3:424+1:151 = 5
            forbids 4 10 -1 -1 -1 = 0
            forbids 5 10 -1 -1 -1 = 6
            == 12 the region has the threshold, and one less
            mix 0:750+1:250 = 3
            mix 0:749+1:251 = 4
            forbids 3 -1 -1 -1 0 = 0
            forbids 4 -1 -1 -1 0 = 8
            == 12 the region has the least threshold, and one less
            setLaw 2 500 = 750
            mix 0:500+1:500 = 3
            mix 0:499+1:501 = 4
            forbids 3 -1 -1 -1 0 = 0
            forbids 3 -1 -1 -1 1 = 0
            forbids 4 -1 -1 -1 0 = 8
            == 12 the region has the greatest threshold, and one less
            setLaw 2 1000 = 750
            mix 0:999+1:1 = 3
            forbids 0 -1 -1 -1 0 = 0
            forbids 3 -1 -1 -1 0 = 8
            == 12 the region of several harvests
            harvest 40 3 0 9999 = 3
            mix 0:375+3:375+1:250 = 4
            mix 0:375+3:374+1:251 = 5
            forbids 4 -1 -1 -1 0 = 0
            forbids 5 -1 -1 -1 0 = 8
            == 12 each threshold counts for its own part of the label
            setLaw 0 1000 = 850
            setLaw 1 700 = 850
            setLaw 2 500 = 750
            mix 0:700+1:300 = 3
            forbids 3 10 0 -1 0 = 6
            forbids 3 -1 0 -1 0 = 0
            setLaw 1 701 = 700
            forbids 3 -1 0 -1 0 = 7
            """);
    }

    private static void forbidsOneGrape() {
        Script.playAll(THREE, """
            == 12 one grape has the threshold, and one less
            mix 0:850+1:150 = 3
            mix 0:849+1:151 = 4
            forbids 3 -1 0 -1 -1 = 0
            forbids 4 -1 0 -1 -1 = 7
            == 12 one grape has the least threshold, and one less
            setLaw 1 500 = 850
            mix 0:500+1:500 = 3
            mix 0:499+1:501 = 4
            forbids 3 -1 0 -1 -1 = 0
            forbids 3 -1 1 -1 -1 = 0
            forbids 4 -1 0 -1 -1 = 7
            == 12 one grape has the greatest threshold, and one less
            setLaw 1 1000 = 850
            mix 0:999+1:1 = 3
            forbids 0 -1 0 -1 -1 = 0
            forbids 3 -1 0 -1 -1 = 7
            == 12 one grape of several harvests
            harvest 40 0 3 9999 = 3
            mix 0:425+3:425+1:150 = 4
            mix 0:425+3:424+1:151 = 5
            forbids 4 -1 0 -1 -1 = 0
            forbids 5 -1 0 -1 -1 = 7
            """);
    }

    private static void forbidsTwoGrapes() {
        Script.playAll(THREE, """
            == 12 two grapes have the threshold together, and one less
            mix 0:500+1:350+2:150 = 3
            mix 0:500+1:349+2:151 = 4
            forbids 3 -1 0 1 -1 = 0
            forbids 4 -1 0 1 -1 = 7
            == 12 two grapes have the least threshold together, and one less
            setLaw 1 500 = 850
            harvest 40 3 3 9999 = 3
            mix 0:250+1:250+2:250+3:250 = 4
            mix 0:250+1:249+2:250+3:251 = 5
            forbids 4 -1 0 1 -1 = 0
            forbids 5 -1 0 1 -1 = 7
            forbids 5 -1 0 2 -1 = 0
            == 12 two grapes have the greatest threshold together, and one less
            setLaw 1 1000 = 850
            mix 0:600+1:400 = 3
            mix 0:600+1:399+2:1 = 4
            forbids 3 -1 0 1 -1 = 0
            forbids 4 -1 0 1 -1 = 7
            == 12 two grapes of the same share
            mix 0:500+1:500 = 3
            forbids 3 -1 0 1 -1 = 0
            forbids 3 -1 1 0 -1 = 0
            == 12 the first grape has less than the second one
            mix 0:499+1:501 = 3
            forbids 3 -1 0 1 -1 = 7
            forbids 3 -1 1 0 -1 = 0
            == 12 the second grape has the share 1
            mix 0:999+1:1 = 3
            forbids 3 -1 0 1 -1 = 0
            forbids 3 -1 1 0 -1 = 7
            == 12 the second grape has the share 0, though a few quarters are in the lot
            mix 0:9000+1:1 = 3
            forbids 3 -1 0 1 -1 = 7
            forbids 3 -1 0 -1 -1 = 0
            == 12 the second grape is not in the lot
            forbids 0 -1 0 1 -1 = 7
            forbids 0 -1 0 -1 -1 = 0
            == 12 the first grape is not in the lot
            forbids 0 -1 1 0 -1 = 7
            == 12 neither grape is in the lot
            forbids 0 -1 1 2 -1 = 7
            == 12 each grape alone has less than the threshold
            mix 0:500+1:500 = 3
            forbids 3 -1 0 -1 -1 = 7
            forbids 3 -1 1 -1 -1 = 7
            forbids 3 -1 0 1 -1 = 0
            """);
    }

    private static void forbidsOrder() {
        Script.playAll(MIXED, """
            == 12 reason 6 alone
            forbids 3 10 -1 -1 -1 = 6
            == 12 reason 7 alone
            forbids 3 -1 0 -1 -1 = 7
            == 12 reason 8 alone
            forbids 3 -1 -1 -1 0 = 8
            == 12 reasons 6 and 7
            forbids 3 10 0 -1 -1 = 6
            forbids 3 10 1 0 -1 = 6
            == 12 reasons 6 and 8
            forbids 3 10 -1 -1 0 = 6
            == 12 reasons 7 and 8
            forbids 3 -1 0 -1 0 = 7
            forbids 3 -1 1 0 0 = 7
            == 12 reasons 6, 7 and 8
            forbids 3 10 0 -1 0 = 6
            == 12 what is not named does not matter
            forbids 3 -1 -1 -1 -1 = 0
            == 12 nothing changes, and no reason is kept
            forbids 3 10 -1 -1 -1 = 6
            reason ! NSEE
            account 8 = 0
            account 10 = 4
            lot 3 1 = 2000
            == 12 the reason that was kept stays
            bottle 3 667 -1 -1 -1 -1 ! ISE
            forbids 3 10 -1 -1 -1 = 6
            forbids 4 10 -1 -1 -1 ! IOOBE
            forbids 3 100 -1 -1 -1 ! IAE
            reason = 5
            == 12 wine that is missing is no reason of those
            spill 3 2000 = 0
            forbids 3 -1 0 1 -1 = 0
            forbids 3 10 0 1 -1 = 6
            """);
        Script.playAll(FULL, """
            == 12 16 bottlings are no reason of those
            forbids 0 10 2 -1 1 = 0
            """);
    }

    private static void bottlingNumbers() {
        Script.playAll(MIXED + """
            bottle 3 20 -1 0 1 -1 = 0
            bottle 0 7 10 0 -1 0 = 1
            """, """
            == 13 the bottling 0 is right, -1 is not
            bottling -1 0 ! IOOBE
            bottling 0 0 = 3
            == 13 the bottling 1 is right, 2 is not
            bottling 2 0 ! IOOBE
            bottling 1 0 = 0
            == 13 what is 0, not -1
            bottling 0 -1 ! IAE
            bottling 0 0 = 3
            == 13 what is 8, not 9
            bottling 0 9 ! IAE
            bottling 0 8 = 1
            == 13 no such bottling comes ahead of a wrong what
            bottling 2 9 ! IOOBE
            bottling -1 -1 ! IOOBE
            == 13 the least and the greatest int
            bottling -2147483648 0 ! IOOBE
            bottling 2147483647 0 ! IOOBE
            bottling 0 -2147483648 ! IAE
            bottling 0 2147483647 ! IAE
            == 13 all bottles are in stock at first
            bottling 0 1 = 20
            bottling 0 2 = 20
            == 13 a label that names all but the vintage and the region
            bottling 0 3 = -1
            bottling 0 4 = 0
            bottling 0 5 = 1
            bottling 0 6 = -1
            == 13 a label that names all but a second grape
            bottling 1 3 = 10
            bottling 1 4 = 0
            bottling 1 5 = -1
            bottling 1 6 = 0
            == 13 a label that names nothing
            bottle 0 1 -1 -1 -1 -1 = 2
            bottling 2 3 = -1
            bottling 2 4 = -1
            bottling 2 5 = -1
            bottling 2 6 = -1
            bottling 2 8 = 1
            == 13 the list is empty at first
            bottling 0 7 = 0
            == 13 the list of no, one and 8 customers
            times 8 addCustomer 1
            bottling 0 7 = 0
            wish 7 0 1 = 0
            bottling 0 7 = 1
            wish 0 0 1 = 0
            wish 1 0 1 = 0
            wish 2 0 1 = 0
            wish 3 0 1 = 0
            wish 4 0 1 = 0
            wish 5 0 1 = 0
            wish 6 0 1 = 0
            bottling 0 7 = 8
            bottling 1 7 = 0
            == 13 all bottles are given away
            addCustomer 0 = 0
            wish 0 0 20 = 0
            serve 0 = 20
            bottling 0 1 = 20
            bottling 0 2 = 0
            bottling 0 7 = 0
            == 13 one bottle is in stock
            addCustomer 0 = 0
            wish 0 0 19 = 0
            serve 0 = 19
            bottling 0 2 = 1
            """);
        Script.playAll(FULL, """
            == 13 the bottling 15 is right, 16 is not
            bottling 16 0 ! IOOBE
            bottling 15 0 = 0
            bottling 15 1 = 1
            """);
    }

    private static void bottlingAndTheLaw() {
        Script.playAll(MIXED + """
            setLaw 0 600 = 850
            setLaw 2 600 = 750
            bottle 3 20 10 0 1 0 = 0
            """, """
            == 13 a law for vintages: the same share is right, one less is not
            bottling 0 8 = 1
            setLaw 0 601 = 600
            bottling 0 8 = 0
            setLaw 0 600 = 601
            bottling 0 8 = 1
            == 13 a law for grapes: the same share is right, one less is not
            setLaw 1 851 = 850
            bottling 0 8 = 0
            setLaw 1 850 = 851
            bottling 0 8 = 1
            == 13 a law for regions: the same share is right, one less is not
            setLaw 2 601 = 600
            bottling 0 8 = 0
            setLaw 2 600 = 601
            bottling 0 8 = 1
            == 13 a bottling keeps its label when the law changes
            setLaw 0 1000 = 600
            setLaw 1 1000 = 850
            setLaw 2 1000 = 600
            bottling 0 8 = 0
            bottling 0 3 = 10
            bottling 0 4 = 0
            bottling 0 5 = 1
            bottling 0 6 = 0
            bottling 0 2 = 20
            == 13 asking whether the label is allowed keeps no reason
            setLaw 0 1000 = 600
            bottling 0 8 = 0
            reason ! NSEE
            == 13 the law goes back with undo
            setLaw 0 1000 = 600
            bottling 0 8 = 0
            undo = 7
            bottling 0 8 = 1
            == 13 a label without names is allowed by every law
            bottle 3 1 -1 -1 -1 -1 = 1
            setLaw 0 1000 = 600
            setLaw 1 1000 = 850
            setLaw 2 1000 = 600
            bottling 1 8 = 1
            """);
    }

    private static void reasons() {
        Script.playAll(MIXED, """
            == 14 nothing was refused yet
            reason ! NSEE
            == 14 the reason 1
            mix 0:1+0:1 ! ISE
            reason = 1
            == 14 the reason 2
            mix 0:1+3:2001 ! ISE
            reason = 2
            == 14 the reason 3
            mix 3:4+0:1 = 4
            mix 4:3+0:1 = 5
            mix 5:2+0:1 = 6
            mix 6:1+0:1 ! ISE
            reason = 3
            == 14 the reason 4
            times 20 mix 0:1+1:1
            mix 0:1+1:1 ! ISE
            reason = 4
            == 14 the reason 5
            bottle 3 667 -1 -1 -1 -1 ! ISE
            reason = 5
            == 14 the reason 6
            bottle 3 1 10 -1 -1 -1 ! ISE
            reason = 6
            == 14 the reason 7
            bottle 3 1 -1 0 -1 -1 ! ISE
            reason = 7
            == 14 the reason 8
            bottle 3 1 -1 -1 -1 0 ! ISE
            reason = 8
            == 14 the reason 9
            times 16 bottle 3 1 -1 -1 -1 -1
            bottle 3 1 -1 -1 -1 -1 ! ISE
            reason = 9
            == 14 the one that was kept last counts
            bottle 3 1 -1 -1 -1 0 ! ISE
            mix 0:1+0:1 ! ISE
            reason = 1
            bottle 3 1 10 -1 -1 -1 ! ISE
            reason = 6
            == 14 asking does not take it away
            mix 0:1+0:1 ! ISE
            reason = 1
            reason = 1
            """);
    }

    private static void reasonsThatStay() {
        Script.playAll(MIXED + """
            bottle 3 1 -1 -1 -1 0 ! ISE
            """, """
            == 14 the reason stays behind successes
            bottle 3 1 -1 -1 -1 -1 = 0
            mix 0:1+1:1 = 4
            spill 0 1 = 8797
            reason = 8
            == 14 the reason stays behind undo, save and restore
            save = 4
            undo = 3
            reason = 8
            restore = 4
            reason = 8
            == 14 the reason stays behind no such lot
            bottle 4 1 -1 -1 -1 -1 ! IOOBE
            spill 4 1 ! IOOBE
            reason = 8
            == 14 the reason stays behind wrong numbers
            bottle 3 0 -1 -1 -1 -1 ! IAE
            spill 3 0 ! IAE
            harvest 0 0 0 0 ! IAE
            reason = 8
            == 14 the reason stays behind an error of a text
            mix 0:1+ ! IAE
            reason = 8
            == 14 the reason stays when there is no room for customers
            times 8 addCustomer 0
            addCustomer 0 ! ISE
            reason = 8
            == 14 the reason stays when there is no room for harvests
            times 9 harvest 0 0 0 1
            harvest 0 0 0 1 ! ISE
            reason = 8
            == 14 the reason stays when the input is full
            type 0123456789012345678901234567890123456789
            feed 48 ! ISE
            reason = 8
            == 14 the reason stays when nothing can be undone
            undo = 3
            undo = 2
            undo = 1
            undo = 0
            undo ! ISE
            reason = 8
            == 14 the reason stays when nothing was saved
            restore ! ISE
            reason = 8
            """);
        Script.playAll("", """
            == 14 what keeps no reason: no room for customers
            times 8 addCustomer 0
            addCustomer 0 ! ISE
            reason ! NSEE
            == 14 what keeps no reason: a full input
            type 0123456789012345678901234567890123456789
            feed 48 ! ISE
            reason ! NSEE
            == 14 what keeps no reason: nothing to undo
            undo ! ISE
            reason ! NSEE
            == 14 what keeps no reason: nothing to restore
            restore ! ISE
            reason ! NSEE
            """);
    }
}
