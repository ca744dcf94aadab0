/** Promises 10 to 14: setLaw, bottle, forbids, bottling, reason. */
public final class LabelsTest {
    /** Lot 4 has 600, 250, 100 and 50 thousandths of the harvests 0 to 3. */
    private static final String MIXED = """
        harvest 10 0 0 9000 = 0
        harvest 10 1 1 9000 = 1
        harvest 11 1 0 9000 = 2
        harvest 12 2 3 9000 = 3
        type 0:1200+1:500+2:200+3:100
        blend = 4
        """;

    public static void main(String[] args) {
        setLaw();
        bottle();
        bottleArguments();
        bottleRefusals();
        tooManyBottlings();
        forbidsVintagesAndRegions();
        forbidsGrapes();
        forbidsArguments();
        bottling();
        reason();
        Script.end();
    }

    private static void setLaw() {
        Script.play("10 setLaw", """
            setLaw 0 500 = 850
            setLaw 0 1000 = 500
            setLaw 0 850 = 1000
            setLaw 1 501 = 850
            setLaw 1 502 = 501
            setLaw 2 999 = 750
            setLaw 2 999 = 999
            setLaw 0 600 = 850
            account 10 = 8
            setLaw 3 600 ! IOOBE
            setLaw -1 600 ! IOOBE
            setLaw 3 0 ! IOOBE
            setLaw 0 499 ! IAE
            setLaw 0 1001 ! IAE
            setLaw 2 -1 ! IAE
            undo = 7
            setLaw 0 700 = 850
            setLaw 1 700 = 502
            setLaw 2 700 = 999
            """);
    }

    private static void bottle() {
        Script.play("11 bottle", """
            harvest 10 2 1 100 = 0
            bottle 0 10 10 2 -1 1 = 0
            lot 0 1 = 70
            account 2 = 30
            account 4 = 10
            bottle 0 1 -1 -1 -1 -1 = 1
            lot 0 1 = 67
            bottle 0 23 -1 -1 -1 -1 ! ISE
            reason = 5
            bottle 0 22 -1 -1 -1 -1 = 2
            lot 0 1 = 1
            lot 0 0 = 100
            account 8 = 3
            account 2 = 99
            account 10 = 4
            harvest 0 0 0 9999 = 1
            bottle 1 3333 0 0 -1 0 = 3
            lot 1 1 = 0
            account 4 = 3366
            """);
    }

    private static void bottleArguments() {
        Script.play("11 the arguments of bottle", """
            harvest 10 2 1 9999 = 0
            bottle 1 1 -1 -1 -1 -1 ! IOOBE
            bottle -1 1 -1 -1 -1 -1 ! IOOBE
            bottle 1 0 -1 -1 -1 -1 ! IOOBE
            bottle 0 0 -1 -1 -1 -1 ! IAE
            bottle 0 -1 -1 -1 -1 -1 ! IAE
            bottle 0 3334 -1 -1 -1 -1 ! IAE
            bottle 0 1431655766 -1 -1 -1 -1 ! IAE
            bottle 0 1 100 -1 -1 -1 ! IAE
            bottle 0 1 -2 -1 -1 -1 ! IAE
            bottle 0 1 -1 5 -1 -1 ! IAE
            bottle 0 1 -1 -2 -1 -1 ! IAE
            bottle 0 1 -1 2 5 -1 ! IAE
            bottle 0 1 -1 2 -2 -1 ! IAE
            bottle 0 1 -1 -1 -1 4 ! IAE
            bottle 0 1 -1 -1 -1 -2 ! IAE
            bottle 0 1 -1 -1 2 -1 ! IAE
            bottle 0 1 -1 2 2 -1 ! IAE
            # wrong numbers come ahead of refusals
            bottle 0 3333 99 2 2 -1 ! IAE
            reason ! NSEE
            account 8 = 0
            account 10 = 1
            lot 0 1 = 9999
            bottle 0 1 99 -1 -1 -1 ! ISE
            reason = 6
            """);
    }

    private static void bottleRefusals() {
        Script.play("11 the reasons of bottlings, in their order", MIXED + """
            bottle 4 667 99 3 -1 2 ! ISE
            reason = 5
            bottle 4 666 99 3 -1 2 ! ISE
            reason = 6
            bottle 4 666 10 3 -1 2 ! ISE
            reason = 7
            bottle 4 666 10 0 1 2 ! ISE
            reason = 8
            account 8 = 0
            account 10 = 5
            lot 4 1 = 2000
            # vintage 10 has 850, grapes 0 and 1 have 950, region 0 has 700
            setLaw 2 700 = 750
            bottle 4 666 10 0 1 0 = 0
            lot 4 1 = 2
            bottle 4 1 99 3 -1 2 ! ISE
            reason = 5
            """);
    }

    private static void tooManyBottlings() {
        StringBuilder sixteen = new StringBuilder();
        for (int bottling = 0; bottling < 16; bottling++) {
            sixteen.append("bottle 0 1 10 -1 -1 -1 = ").append(bottling).append("\n");
        }
        Script.play("11 at most 16 bottlings", """
            harvest 10 2 1 1000 = 0
            """ + sixteen + """
            bottle 0 1 10 -1 -1 -1 ! ISE
            reason = 9
            bottle 0 1 10 -1 -1 0 ! ISE
            reason = 8
            bottle 0 1 10 1 -1 0 ! ISE
            reason = 7
            bottle 0 1 11 1 -1 0 ! ISE
            reason = 6
            bottle 0 1000 11 1 -1 0 ! ISE
            reason = 5
            bottle 0 1 10 2 -1 1 ! ISE
            reason = 9
            account 8 = 16
            lot 0 1 = 952
            recalled 0 = 65535
            undo = 7
            bottle 0 2 -1 -1 -1 -1 = 15
            bottling 15 1 = 2
            """);
    }

    private static void forbidsVintagesAndRegions() {
        Script.play("12 forbids: vintages and regions", MIXED + """
            forbids 4 -1 -1 -1 -1 = 0
            forbids 4 10 -1 -1 -1 = 0
            setLaw 0 851 = 850
            forbids 4 10 -1 -1 -1 = 6
            setLaw 0 850 = 851
            forbids 4 11 -1 -1 -1 = 6
            forbids 4 0 -1 -1 -1 = 6
            forbids 4 -1 -1 -1 0 = 8
            setLaw 2 701 = 750
            forbids 4 -1 -1 -1 0 = 8
            setLaw 2 700 = 701
            forbids 4 -1 -1 -1 0 = 0
            forbids 4 -1 -1 -1 1 = 8
            forbids 4 11 0 -1 1 = 6
            forbids 4 10 0 -1 1 = 7
            forbids 4 10 0 1 1 = 8
            forbids 4 10 0 1 0 = 0
            # nothing changes, and no reason is kept
            reason ! NSEE
            account 8 = 0
            account 10 = 8
            """);
    }

    private static void forbidsGrapes() {
        Script.play("12 forbids: grapes", MIXED + """
            # the grapes 0, 1 and 2 have 600, 350 and 50
            forbids 4 -1 0 -1 -1 = 7
            forbids 4 -1 0 1 -1 = 0
            forbids 4 -1 1 0 -1 = 7
            forbids 4 -1 0 2 -1 = 7
            setLaw 1 601 = 850
            forbids 4 -1 0 -1 -1 = 7
            forbids 4 -1 0 2 -1 = 0
            setLaw 1 600 = 601
            forbids 4 -1 0 -1 -1 = 0
            forbids 4 -1 0 3 -1 = 7
            forbids 4 -1 3 4 -1 = 7
            setLaw 1 950 = 600
            forbids 4 -1 0 1 -1 = 0
            setLaw 1 951 = 950
            forbids 4 -1 0 1 -1 = 7
            # of two equal ones each may be the first
            setLaw 1 1000 = 951
            type 0:5+1:5
            blend = 5
            forbids 5 -1 0 1 -1 = 0
            forbids 5 -1 1 0 -1 = 0
            forbids 5 -1 0 -1 -1 = 7
            forbids 0 -1 0 -1 -1 = 0
            forbids 0 -1 0 1 -1 = 7
            """);
    }

    private static void forbidsArguments() {
        Script.play("12 the arguments of forbids", """
            harvest 10 2 1 10 = 0
            forbids 1 -1 -1 -1 -1 ! IOOBE
            forbids -1 -1 -1 -1 -1 ! IOOBE
            forbids 1 100 -1 -1 -1 ! IOOBE
            forbids 0 100 -1 -1 -1 ! IAE
            forbids 0 -2 -1 -1 -1 ! IAE
            forbids 0 -1 5 -1 -1 ! IAE
            forbids 0 -1 -2 -1 -1 ! IAE
            forbids 0 -1 2 5 -1 ! IAE
            forbids 0 -1 2 -2 -1 ! IAE
            forbids 0 -1 -1 -1 4 ! IAE
            forbids 0 -1 -1 -1 -2 ! IAE
            forbids 0 -1 -1 2 -1 ! IAE
            forbids 0 -1 2 2 -1 ! IAE
            forbids 0 99 4 3 3 = 6
            # a lot of which nothing is left has its shares
            spill 0 10 = 0
            forbids 0 10 2 -1 1 = 0
            """);
    }

    private static void bottling() {
        Script.play("13 bottling", MIXED + """
            setLaw 2 700 = 750
            bottle 4 20 10 0 1 0 = 0
            bottle 3 30 -1 2 -1 -1 = 1
            bottle 3 40 12 -1 -1 3 = 2
            bottling 0 0 = 4
            bottling 0 1 = 20
            bottling 0 2 = 20
            bottling 0 3 = 10
            bottling 0 4 = 0
            bottling 0 5 = 1
            bottling 0 6 = 0
            bottling 0 7 = 0
            bottling 0 8 = 1
            bottling 1 0 = 3
            bottling 1 3 = -1
            bottling 1 4 = 2
            bottling 1 5 = -1
            bottling 1 6 = -1
            bottling 2 4 = -1
            bottling 2 3 = 12
            bottling 2 6 = 3
            addCustomer 0 = 0
            addCustomer 0 = 1
            wish 0 0 5 = 0
            wish 1 0 30 = 0
            bottling 0 7 = 2
            serve 0 = 20
            bottling 0 1 = 20
            bottling 0 2 = 0
            bottling 0 7 = 1
            # each part of the label is looked at by the law as it is now
            setLaw 2 701 = 700
            bottling 0 8 = 0
            bottling 0 6 = 0
            bottling 2 8 = 1
            setLaw 2 700 = 701
            bottling 0 8 = 1
            setLaw 1 951 = 850
            bottling 0 8 = 0
            setLaw 1 950 = 951
            bottling 0 8 = 1
            setLaw 0 851 = 850
            bottling 0 8 = 0
            bottling 1 8 = 1
            bottling 3 0 ! IOOBE
            bottling -1 0 ! IOOBE
            bottling 3 9 ! IOOBE
            bottling 0 9 ! IAE
            bottling 0 -1 ! IAE
            """);
    }

    private static void reason() {
        Script.play("14 reason", """
            reason ! NSEE
            harvest 10 2 1 10 = 0
            bottle 0 4 -1 -1 -1 -1 ! ISE
            reason = 5
            reason = 5
            type 0:1+0:1
            blend ! ISE
            reason = 1
            # what is no refusal keeps no reason
            bottle 0 0 -1 -1 -1 -1 ! IAE
            bottle 9 1 -1 -1 -1 -1 ! IOOBE
            forbids 0 99 -1 -1 -1 = 6
            restore ! ISE
            addCustomer 3 ! IAE
            type 0:1
            blend ! IAE
            reason = 1
            bottle 0 1 99 -1 -1 -1 ! ISE
            save = 1
            bottle 0 1 -1 1 -1 -1 ! ISE
            # a success, undo and restore leave it
            bottle 0 1 -1 -1 -1 -1 = 0
            reason = 7
            undo = 1
            reason = 7
            restore = 1
            reason = 7
            """);
    }
}
