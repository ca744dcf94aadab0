/** The edges of the promises 28 to 30, each in a script of its own. */
final class UndoEdges {
    /** Six changes. */
    private static final String FILLED = """
        harvest 10 0 0 9999 = 0
        harvest 20 1 1 9999 = 1
        bottle 0 100 -1 -1 -1 -1 = 0
        addCustomer 0 = 0
        wish 0 0 20 = 0
        serve 0 = 20
        """;

    private UndoEdges() {
    }

    static void playAll() {
        undoOfEachChange();
        undoOfEight();
        undoOfWhatIsNoChange();
        undoLeaves();
        undoAndGoOn();
        save();
        restore();
        restoreOfWhat();
    }

    private static void undoOfEachChange() {
        Script.playAll(FILLED, """
            == 28 undo of harvest
            harvest 30 2 2 5 = 2
            undo = 6
            account 0 = 19998
            account 6 = 2
            account 7 = 2
            share 0 0 2 ! IAE
            lot 2 0 ! IOOBE
            == 28 undo of blend
            mix 0:10+1:20 = 2
            undo = 6
            account 6 = 2
            lot 0 1 = 9699
            lot 1 1 = 9999
            lot 0 6 = 0
            lot 2 0 ! IOOBE
            == 28 undo of spill
            spill 1 7 = 9992
            undo = 6
            lot 1 1 = 9999
            account 3 = 0
            == 28 undo of setLaw
            setLaw 1 700 = 850
            undo = 6
            setLaw 1 700 = 850
            == 28 undo of bottle
            bottle 1 5 -1 -1 -1 -1 = 1
            undo = 6
            lot 1 1 = 9999
            account 8 = 1
            account 2 = 300
            recalled 1 = 0
            bottling 1 0 ! IOOBE
            == 28 undo of addCustomer
            addCustomer 2 = 1
            undo = 6
            account 9 = 1
            holds 1 0 0 ! IOOBE
            == 28 undo of wish
            wish 0 0 30 = 20
            undo = 6
            holds 0 0 1 = 20
            bottling 0 7 = 0
            == 28 undo of serve
            undo = 5
            holds 0 0 0 = 0
            holds 0 0 1 = 20
            bottling 0 2 = 100
            bottling 0 7 = 1
            == 28 undo of giveBack
            giveBack 0 0 20 = 0
            undo = 6
            holds 0 0 0 = 20
            holds 0 0 1 = 20
            bottling 0 2 = 80
            == 28 undo of changes that leave all as it was
            setLaw 0 850 = 850
            wish 0 0 20 = 20
            undo = 7
            undo = 6
            holds 0 0 0 = 20
            """);
    }

    private static void undoOfEight() {
        Script.playAll("", """
            == 28 nothing to undo
            undo ! ISE
            == 28 one change
            addCustomer 0 = 0
            undo = 0
            undo ! ISE
            account 9 = 0
            == 28 eight changes, and all of them are undone
            times 8 addCustomer 0
            undo = 7
            undo = 6
            undo = 5
            undo = 4
            undo = 3
            undo = 2
            undo = 1
            undo = 0
            undo ! ISE
            account 9 = 0
            == 28 the ninth change behind eight: the first one stays
            setLaw 0 500 = 850
            times 8 addCustomer 0
            account 10 = 8
            undo = 7
            undo = 6
            undo = 5
            undo = 4
            undo = 3
            undo = 2
            undo = 1
            undo = 0
            undo ! ISE
            account 9 = 0
            setLaw 0 501 = 500
            == 28 the latest change is undone first
            setLaw 0 501 = 850
            setLaw 0 502 = 501
            undo = 1
            setLaw 0 503 = 501
            == 28 many changes: the latest 8 are undone
            setLaw 0 501 = 850
            setLaw 0 502 = 501
            setLaw 0 503 = 502
            setLaw 0 504 = 503
            setLaw 0 505 = 504
            setLaw 0 506 = 505
            setLaw 0 507 = 506
            setLaw 0 508 = 507
            setLaw 0 509 = 508
            setLaw 0 510 = 509
            setLaw 0 511 = 510
            setLaw 0 512 = 511
            setLaw 0 513 = 512
            setLaw 0 514 = 513
            setLaw 0 515 = 514
            setLaw 0 516 = 515
            setLaw 0 517 = 516
            undo = 7
            undo = 6
            undo = 5
            undo = 4
            undo = 3
            undo = 2
            undo = 1
            undo = 0
            undo ! ISE
            setLaw 0 600 = 509
            == 28 no reason is kept
            undo ! ISE
            reason ! NSEE
            == 28 undo without a change changes nothing
            feed 48 = 1
            save = 0
            undo ! ISE
            account 11 = 1
            account 10 = 0
            restore = 0
            setLaw 0 500 = 850
            """);
    }

    private static void undoOfWhatIsNoChange() {
        Script.playAll(FILLED, """
            == 28 calls that ask are no changes
            lot 0 0 = 9999
            share 0 0 0 = 1000
            greatest 0 0 = 0
            meanVintage 0 = 10.0
            forbids 0 -1 -1 -1 -1 = 0
            bottling 0 0 = 0
            holds 0 0 0 = 20
            recalled 0 = 1
            recalledAgain 0 = 1
            bottlesOf 0 0 = 20
            ways 0 0 = 1
            account 0 = 19998
            account 10 = 6
            == 28 feeding and saving are no changes
            feed 48 = 1
            save = 2
            account 10 = 6
            == 28 undo is no change
            undo = 5
            undo = 4
            undo = 3
            account 9 = 0
            == 28 calls that throw are no changes
            harvest 100 0 0 1 ! IAE
            mix 0:1 ! IAE
            mix 0:0+1:1 ! IAE
            mix 0:1+0:1 ! ISE
            spill 2 1 ! IOOBE
            spill 0 0 ! IAE
            setLaw 3 500 ! IOOBE
            setLaw 0 499 ! IAE
            bottle 2 1 -1 -1 -1 -1 ! IOOBE
            bottle 0 0 -1 -1 -1 -1 ! IAE
            bottle 0 3333 -1 -1 -1 -1 ! ISE
            addCustomer 3 ! IAE
            wish 1 0 1 ! IOOBE
            wish 0 0 3334 ! IAE
            serve 1 ! IOOBE
            giveBack 0 1 1 ! IOOBE
            giveBack 0 0 21 ! IAE
            restore ! ISE
            account 10 = 6
            undo = 5
            holds 0 0 0 = 0
            """);
    }

    private static void undoLeaves() {
        Script.playAll(FILLED, """
            == 28 the input does not go back
            type 0:1+
            undo = 5
            account 11 = 4
            == 28 the input that a blend has read does not come back
            mix 0:1+1:1 = 2
            undo = 6
            account 11 = 0
            == 28 the error position does not go back
            mix 0:x ! IAE
            undo = 5
            errorPosition = 2
            == 28 the reason does not go back
            mix 0:1+0:1 ! ISE
            undo = 5
            reason = 1
            == 28 what was saved does not go back
            save = 2
            undo = 5
            undo = 4
            restore = 2
            holds 0 0 0 = 20
            holds 0 0 1 = 20
            """);
    }

    private static void undoAndGoOn() {
        Script.playAll("""
            setLaw 0 501 = 850
            setLaw 0 502 = 501
            setLaw 0 503 = 502
            """, """
            == 28 a change behind undo is the latest one
            undo = 2
            setLaw 0 504 = 502
            account 10 = 3
            undo = 2
            undo = 1
            setLaw 0 505 = 501
            == 28 a change behind undoing all
            undo = 2
            undo = 1
            undo = 0
            setLaw 0 504 = 850
            undo = 0
            undo ! ISE
            == 28 what was undone is not undone again
            undo = 2
            undo = 1
            undo = 0
            undo ! ISE
            setLaw 0 504 = 850
            == 28 undo over the end of eight
            times 5 addCustomer 0
            setLaw 1 600 = 850
            undo = 7
            undo = 6
            times 3 addCustomer 1
            account 10 = 8
            account 9 = 7
            undo = 7
            undo = 6
            undo = 5
            account 9 = 4
            undo = 4
            undo = 3
            undo = 2
            undo = 1
            account 9 = 0
            undo = 0
            undo ! ISE
            setLaw 0 505 = 502
            == 28 numbers that were undone are given again, to something new
            harvest 10 0 0 5 = 0
            undo = 3
            harvest 20 1 1 7 = 0
            share 0 1 10 = 0
            share 0 1 20 = 1000
            lot 0 0 = 7
            """);
    }

    private static void save() {
        Script.playAll("", """
            == 29 a book without lots
            save = 0
            == 29 a book with one lot
            harvest 0 0 0 1 = 0
            save = 1
            == 29 a book with 24 lots
            times 12 harvest 0 0 0 100
            times 12 mix 0:1+1:1
            save = 24
            == 29 lots, not harvests
            times 2 harvest 0 0 0 100
            mix 0:1+1:1 = 2
            save = 3
            == 29 lots of which nothing is left are counted
            harvest 0 0 0 1 = 0
            spill 0 1 = 0
            save = 1
            == 29 saving is no change
            save = 0
            account 10 = 0
            undo ! ISE
            == 29 the latest changes can be undone after saving
            harvest 0 0 0 1 = 0
            harvest 0 0 0 1 = 1
            save = 2
            undo = 1
            undo = 0
            account 6 = 0
            == 29 eight changes can be undone after saving
            times 8 addCustomer 0
            save = 0
            undo = 7
            undo = 6
            undo = 5
            undo = 4
            undo = 3
            undo = 2
            undo = 1
            undo = 0
            undo ! ISE
            == 29 what was saved before is replaced
            setLaw 0 500 = 850
            save = 0
            setLaw 0 600 = 500
            save = 0
            setLaw 0 700 = 600
            restore = 0
            setLaw 0 800 = 600
            == 29 saving changes nothing
            harvest 10 0 0 9 = 0
            type 0:
            mix x ! IAE
            mix 0:1+0:1 ! ISE
            save = 1
            errorPosition = 2
            reason = 1
            account 0 = 9
            account 11 = 0
            """);
    }

    private static void restore() {
        Script.playAll("", """
            == 30 nothing was saved
            restore ! ISE
            == 30 nothing was saved: no reason is kept
            restore ! ISE
            reason ! NSEE
            == 30 nothing was saved: nothing changes
            harvest 10 0 0 9 = 0
            feed 48 = 1
            restore ! ISE
            account 6 = 1
            account 10 = 1
            account 11 = 1
            undo = 0
            == 30 undoing all does not save
            harvest 10 0 0 9 = 0
            undo = 0
            restore ! ISE
            == 30 an empty book comes back
            save = 0
            times 2 harvest 10 0 0 9
            restore = 0
            account 6 = 0
            account 7 = 0
            account 0 = 0
            lot 0 0 ! IOOBE
            == 30 a book with 24 lots comes back
            times 12 harvest 0 0 0 100
            times 12 mix 0:1+1:1
            save = 24
            undo = 7
            undo = 6
            restore = 24
            account 6 = 24
            harvest 0 0 0 1 ! ISE
            == 30 nothing can be undone then
            times 9 setLaw 0 500
            save = 0
            setLaw 0 600 = 500
            restore = 0
            account 10 = 0
            undo ! ISE
            == 30 restore is no change
            save = 0
            restore = 0
            account 10 = 0
            undo ! ISE
            == 30 changes behind it can be undone, eight of them
            setLaw 0 500 = 850
            save = 0
            restore = 0
            times 8 addCustomer 0
            account 10 = 8
            undo = 7
            undo = 6
            undo = 5
            undo = 4
            undo = 3
            undo = 2
            undo = 1
            undo = 0
            undo ! ISE
            setLaw 0 600 = 500
            == 30 it stays saved
            setLaw 0 500 = 850
            save = 0
            setLaw 0 600 = 500
            restore = 0
            setLaw 0 700 = 500
            restore = 0
            setLaw 0 800 = 500
            == 30 changes behind it do not reach what is saved
            harvest 10 0 0 100 = 0
            save = 1
            restore = 1
            spill 0 60 = 40
            harvest 20 1 1 100 = 1
            mix 0:1+1:1 = 2
            restore = 1
            lot 0 1 = 100
            lot 0 6 = 0
            account 3 = 0
            account 7 = 1
            == 30 restore at once
            harvest 10 0 0 100 = 0
            save = 1
            restore = 1
            lot 0 1 = 100
            undo ! ISE
            """);
    }

    private static void restoreOfWhat() {
        Script.playAll(FILLED + """
            mix 0:10+1:10 = 2
            save = 3
            """, """
            == 30 lots
            spill 2 5 = 15
            mix 0:1+2:1 = 3
            harvest 30 2 2 9 = 4
            restore = 3
            lot 2 1 = 20
            lot 0 1 = 9689
            lot 3 0 ! IOOBE
            lot 2 6 = 0
            account 7 = 2
            account 3 = 0
            == 30 the law
            setLaw 0 500 = 850
            setLaw 1 501 = 850
            setLaw 2 502 = 750
            restore = 3
            setLaw 0 600 = 850
            setLaw 1 600 = 850
            setLaw 2 600 = 750
            == 30 bottlings
            bottle 1 5 -1 -1 -1 -1 = 1
            restore = 3
            bottling 1 0 ! IOOBE
            account 8 = 1
            account 2 = 300
            == 30 customers
            addCustomer 2 = 1
            restore = 3
            account 9 = 1
            addCustomer 1 = 1
            == 30 what customers hold
            giveBack 0 0 20 = 0
            restore = 3
            holds 0 0 0 = 20
            bottling 0 2 = 80
            == 30 what customers wish
            wish 0 0 50 = 20
            restore = 3
            holds 0 0 1 = 20
            == 30 the class of a customer, though one of another class took the number
            undo = 6
            undo = 5
            undo = 4
            undo = 3
            addCustomer 2 = 0
            addCustomer 1 = 1
            restore = 3
            addCustomer 1 = 1
            wish 0 0 99 = 20
            wish 1 0 99 = 0
            listed 0 0 = 0
            listed 0 1 = 1
            == 30 a blend, though another one took the number
            undo = 6
            mix 1:30+0:50 = 2
            restore = 3
            part 2 0 0 = 0
            part 2 0 1 = 10
            share 2 0 0 = 500
            lot 2 0 = 20
            == 30 the input does not go back
            type 0:1
            restore = 3
            account 11 = 3
            == 30 the error position does not go back
            mix 0:x ! IAE
            restore = 3
            errorPosition = 2
            == 30 the reason does not go back
            mix 0:1+0:1 ! ISE
            restore = 3
            reason = 1
            == 30 behind restore numbers go on from what was saved
            harvest 30 2 2 9 = 3
            bottle 1 5 -1 -1 -1 -1 = 1
            addCustomer 2 = 1
            restore = 3
            harvest 40 3 3 8 = 3
            lot 3 4 = 2
            bottle 1 6 -1 -1 -1 -1 = 1
            addCustomer 0 = 1
            share 3 1 30 = 0
            bottling 1 1 = 6
            """);
    }
}
