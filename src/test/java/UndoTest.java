/** Promises 28 to 30: undo, save, restore. */
public final class UndoTest {
    private static final String FILLED = """
        harvest 10 0 0 9999 = 0
        harvest 20 1 1 9999 = 1
        bottle 0 100 -1 -1 -1 -1 = 0
        addCustomer 0 = 0
        addCustomer 1 = 1
        wish 0 0 20 = 0
        """;

    public static void main(String[] args) {
        undoEachChange();
        undoEight();
        undoAndGoOn();
        undoIsNoChange();
        undoneNumbersAreClean();
        save();
        restore();
        restoreGoesBackInAll();
        restoreOverOtherNumbers();
        Script.end();
    }

    private static void undoEachChange() {
        Script.play("28 undo of each change", FILLED + """
            serve 0 = 20
            undo = 6
            holds 0 0 0 = 0
            bottling 0 2 = 100
            undo = 5
            holds 0 0 1 = 0
            undo = 4
            account 9 = 1
            undo = 3
            account 9 = 0
            undo = 2
            account 8 = 0
            account 2 = 0
            lot 0 1 = 9999
            undo = 1
            account 6 = 1
            account 7 = 1
            undo = 0
            account 6 = 0
            account 0 = 0
            undo ! ISE
            reason ! NSEE
            """);
        Script.play("28 undo of blend, spill, setLaw and giveBack", FILLED + """
            type 0:10+1:20
            blend = 2
            lot 0 1 = 9689
            undo = 6
            lot 2 0 ! IOOBE
            lot 0 1 = 9699
            lot 1 1 = 9999
            lot 0 6 = 0
            spill 1 99 = 9900
            undo = 6
            lot 1 1 = 9999
            account 3 = 0
            setLaw 1 700 = 850
            undo = 6
            setLaw 1 850 = 850
            undo = 6
            serve 0 = 20
            giveBack 0 0 5 = 15
            undo = 7
            holds 0 0 0 = 20
            holds 0 0 1 = 20
            bottling 0 2 = 80
            wish 0 0 9 = 20
            undo = 7
            holds 0 0 1 = 20
            """);
    }

    private static void undoEight() {
        StringBuilder laws = new StringBuilder("setLaw 0 500 = 850\n");
        for (int threshold = 501; threshold <= 510; threshold++) {
            laws.append("setLaw 0 ").append(threshold).append(" = ").append(threshold - 1).append("\n");
        }
        Script.play("28 the latest 8 changes", laws + """
            account 10 = 8
            undo = 7
            undo = 6
            undo = 5
            undo = 4
            undo = 3
            undo = 2
            undo = 1
            undo = 0
            undo ! ISE
            account 10 = 0
            setLaw 0 600 = 502
            account 10 = 1
            undo = 0
            """);
    }

    private static void undoAndGoOn() {
        Script.play("28 undo and go on", """
            setLaw 0 501 = 850
            setLaw 0 502 = 501
            setLaw 0 503 = 502
            undo = 2
            undo = 1
            setLaw 0 504 = 501
            setLaw 0 505 = 504
            account 10 = 3
            undo = 2
            undo = 1
            setLaw 0 506 = 501
            undo = 1
            undo = 0
            undo ! ISE
            setLaw 0 507 = 850
            """);
    }

    private static void undoIsNoChange() {
        Script.play("28 what is no change", FILLED + """
            account 10 = 6
            save = 2
            forbids 0 10 0 -1 0 = 0
            recalled 0 = 1
            type 0:1
            blend ! IAE
            type 0:1+0:1
            blend ! ISE
            spill 0 0 ! IAE
            setLaw 0 0 ! IAE
            bottle 0 3333 -1 -1 -1 -1 ! ISE
            harvest 0 0 0 0 ! IAE
            addCustomer 3 ! IAE
            wish 0 0 -1 ! IAE
            serve 1 ! IOOBE
            giveBack 0 0 1 ! IAE
            account 10 = 6
            # the same number again is a change
            setLaw 0 850 = 850
            wish 0 0 20 = 20
            account 10 = 8
            """);
    }

    private static void undoneNumbersAreClean() {
        Script.play("28 numbers that are made again begin anew", FILLED + """
            wish 1 0 30 = 0
            serve 0 = 50
            undo = 7
            undo = 6
            undo = 5
            undo = 4
            undo = 3
            undo = 2
            bottle 1 7 -1 -1 -1 -1 = 0
            addCustomer 2 = 0
            holds 0 0 0 = 0
            holds 0 0 1 = 0
            bottling 0 0 = 1
            bottling 0 2 = 7
            bottling 0 7 = 0
            wish 0 0 7 = 0
            serve 0 = 7
            account 4 = 0
            """);
        Script.play("28 lots that are made again begin anew", """
            harvest 10 0 0 100 = 0
            harvest 20 1 1 100 = 1
            harvest 30 2 2 100 = 2
            type 0:10+1:10+2:80
            blend = 3
            undo = 3
            type 1:10+0:30
            blend = 3
            share 3 0 2 = 0
            share 3 0 0 = 750
            lot 3 2 = 2
            part 3 2 0 ! NSEE
            part 3 0 0 = 1
            lot 2 6 = 0
            undo = 3
            undo = 2
            harvest 40 3 3 50 = 2
            share 2 1 40 = 1000
            share 2 1 30 = 0
            lot 2 0 = 50
            """);
    }

    private static void save() {
        Script.play("29 save", """
            save = 0
            harvest 10 0 0 100 = 0
            save = 1
            spill 0 10 = 90
            account 10 = 2
            # the latest changes can be undone after saving, too
            save = 1
            undo = 1
            lot 0 1 = 100
            undo = 0
            account 6 = 0
            # the last one that was saved counts
            restore = 1
            lot 0 1 = 90
            account 3 = 10
            """);
    }

    private static void restore() {
        Script.play("30 restore", """
            restore ! ISE
            harvest 10 0 0 100 = 0
            restore ! ISE
            account 10 = 1
            account 6 = 1
            reason ! NSEE
            save = 1
            harvest 20 1 1 50 = 1
            type 1:5+0:5
            blend = 2
            restore = 1
            account 6 = 1
            account 7 = 1
            account 1 = 100
            account 10 = 0
            undo ! ISE
            # it stays saved
            spill 0 100 = 0
            account 10 = 1
            restore = 1
            lot 0 1 = 100
            account 3 = 0
            account 10 = 0
            harvest 30 2 2 70 = 1
            share 1 1 30 = 1000
            type 1:5+0:5
            blend = 2
            undo = 1
            undo = 0
            undo ! ISE
            restore = 1
            """);
    }

    private static void restoreGoesBackInAll() {
        Script.play("30 lots, the law, bottlings and customers go back", FILLED + """
            serve 0 = 20
            setLaw 2 800 = 750
            save = 2
            setLaw 2 900 = 800
            bottle 1 5 -1 -1 -1 -1 = 1
            giveBack 0 0 20 = 0
            wish 1 0 3 = 0
            addCustomer 2 = 2
            serve 0 = 3
            type 0:10+1:10
            blend = 2
            spill 2 4 = 16
            restore = 2
            account 0 = 19998
            account 1 = 19698
            account 2 = 300
            account 3 = 0
            account 4 = 80
            account 5 = 20
            account 8 = 1
            account 9 = 2
            holds 0 0 0 = 20
            holds 0 0 1 = 20
            holds 1 0 1 = 0
            lot 1 1 = 9999
            setLaw 2 750 = 800
            bottling 1 0 ! IOOBE
            """);
    }

    private static void restoreOverOtherNumbers() {
        Script.play("30 what was made in the same places is gone", """
            harvest 10 0 0 100 = 0
            harvest 20 1 1 100 = 1
            type 0:30+1:10
            blend = 2
            addCustomer 2 = 0
            addCustomer 0 = 1
            bottle 2 4 -1 0 1 -1 = 0
            wish 0 0 2 = 0
            wish 1 0 1 = 0
            save = 3
            undo = 7
            undo = 6
            undo = 5
            undo = 4
            undo = 3
            undo = 2
            undo = 1
            undo = 0
            harvest 30 2 2 50 = 0
            harvest 40 3 3 50 = 1
            harvest 50 4 0 50 = 2
            type 2:6+1:12+0:6
            blend = 3
            addCustomer 1 = 0
            addCustomer 1 = 1
            bottle 0 5 30 -1 -1 2 = 0
            wish 1 0 9 = 0
            serve 0 = 5
            restore = 3
            account 7 = 2
            lot 2 2 = 2
            lot 2 4 = -1
            lot 2 1 = 28
            lot 2 5 = 2
            lot 0 6 = 1
            part 2 0 0 = 0
            part 2 0 1 = 30
            part 2 1 0 = 1
            part 2 1 1 = 10
            share 2 0 0 = 750
            share 2 0 1 = 250
            share 1 1 20 = 1000
            share 1 2 1 = 1000
            share 1 3 1 = 1000
            listed 0 0 = 1
            listed 0 1 = 0
            holds 0 0 0 = 0
            holds 0 0 1 = 2
            bottling 0 0 = 2
            bottling 0 1 = 4
            bottling 0 2 = 4
            bottling 0 3 = -1
            bottling 0 5 = 1
            bottling 0 6 = -1
            recalled 1 = 1
            serve 0 = 3
            """);
        Script.play("30 blends go back", """
            harvest 10 0 0 100 = 0
            harvest 20 1 1 100 = 1
            type 0:30+1:10
            blend = 2
            save = 3
            undo = 2
            type 1:6+0:4
            blend = 2
            share 2 0 0 = 400
            restore = 3
            part 2 0 0 = 0
            part 2 0 1 = 30
            part 2 1 0 = 1
            part 2 1 1 = 10
            share 2 0 0 = 750
            share 2 0 1 = 250
            lot 2 0 = 40
            """);
        Script.play("30 harvests go back", """
            harvest 10 0 0 100 = 0
            harvest 20 1 1 100 = 1
            save = 2
            undo = 1
            undo = 0
            harvest 30 2 2 50 = 0
            harvest 40 3 3 50 = 1
            restore = 2
            share 0 1 10 = 1000
            share 0 1 30 = 0
            share 1 2 1 = 1000
            share 1 3 1 = 1000
            meanVintage 1 = 20.0
            lot 0 0 = 100
            """);
    }
}
