/** The program that README.md shows. */
public final class Example {
    public static void main(String[] args) {
        RegattaOffice office = new RegattaOffice();
        office.discards(3, 1);                     // from 3 races on 1 is left out
        int ann = office.boat();
        int bob = office.boat();
        int cleo = office.boat();

        int first = office.race(0, 0);             // a QUALIFYING race of ALL
        office.finish(first, ann, 1);
        office.finish(first, bob, 2);
        office.finish(first, cleo, 2);             // a dead heat
        int second = office.race(0, 0);
        office.finish(second, bob, 1);
        office.penalty(second, bob, 20);
        office.code(second, ann, 4, 0);            // DSQ; of Cleo nothing is put in
        int third = office.race(0, 0);
        office.finish(third, cleo, 1);
        office.finish(third, bob, 2);
        office.finish(third, ann, 3);

        System.out.println("Bob's tenths in the first race: " + office.points(first, bob));
        System.out.println("Missing in the second: " + office.missing(second, 0));
        System.out.println("Ann's NET with an AVERAGE: " + office.what(second, ann, 6, 0));
        int decision = office.protest(second, ann, 6, 0);
        System.out.println("In the lead with it: " + office.at(1));
        office.reopen(decision);
        System.out.println("In the lead without it: " + office.at(1));

        try {
            office.race(1, 1);
        } catch (IllegalStateException e) {
            System.out.println("No FINAL of GOLD before the split");
        }
        System.out.println("In BRONZE: " + office.split(1, 1));
        int medal = office.race(2, 1);             // a MEDAL race of GOLD
        office.finish(medal, office.at(1), 1);

        int length = office.sheet();
        for (int i = 0; i < length; i++) {
            System.out.print((char) office.sheetByte(i));
        }
    }
}
