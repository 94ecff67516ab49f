/** The boundary cases of gusts, and of the hours that go by. */
public final class HourEdgesTest extends EdgeTests {
    public static void main(String[] args) {
        runAll(HourEdgesTest.class);
    }

    /** A slope with a sledge that goes down with so many light sacks, by one gust in all hours. */
    private void goDown(int sacks, int gust) {
        x = allGusts(slope(), gust);
        sledgeWith(x, sacks, 0);
        x.go(0);
    }

    /** Lets an hour go by for each height that is due behind it. */
    private void dueHeights(int... heights) {
        for (int i = 0; i < heights.length; i++) {
            x.pass(1);
            due("told(0, 2) behind the hour " + i, heights[i], x.told(0, 2));
        }
    }

    @Edge("Gusts: 8 hours, and the gust 0, at first")
    void everyGustAtFirst() {
        for (int hour = 0; hour < 8; hour++) {
            due("count(1) in the hour " + hour, 0, x.count(1));
            due("setGust(" + hour + ", 9)", 0, x.setGust(hour, 9));
            x.pass(1);
        }
    }

    @Edge("setGust: an hour of the table, 0 to 7, the least")
    void setGustTakesTheHour0() {
        due("setGust(0, 5)", 0, x.setGust(0, 5));
        due("count(1) in the hour 0", 5, x.count(1));
        for (int hour = 1; hour < 8; hour++) {
            x.pass(1);
            due("count(1) in the hour " + hour, 0, x.count(1));
        }
    }

    @Edge("setGust: an hour of the table, 0 to 7, the greatest")
    void setGustTakesTheHour7() {
        due("setGust(7, 5)", 0, x.setGust(7, 5));
        for (int hour = 0; hour < 7; hour++) {
            due("count(1) in the hour " + hour, 0, x.count(1));
            x.pass(1);
        }
        due("count(1) in the hour 7", 5, x.count(1));
    }

    @Edge("setGust: IndexOutOfBoundsException if hour is not 0 to 7")
    void setGustRefusesOtherHours() {
        refusedOutside(0, 7, "setGust(#, 5)", INDEX, hour -> x.setGust(hour, 5));
        x.pass(20);
        refused("setGust(20, 5) in the hour 20", INDEX, () -> x.setGust(20, 5));
    }

    @Edge("setGust: a gust of 0 to 9, the least; Returns the gust before")
    void setGustTakes0() {
        x.setGust(3, 1);
        due("setGust(3, 0)", 1, x.setGust(3, 0));
        due("setGust(3, 0) again", 0, x.setGust(3, 0));
    }

    @Edge("setGust: a gust of 0 to 9, the greatest; Returns the gust before")
    void setGustTakes9() {
        x.setGust(3, 8);
        due("setGust(3, 9)", 8, x.setGust(3, 9));
        due("setGust(3, 9) again", 9, x.setGust(3, 9));
    }

    @Edge("setGust: IllegalArgumentException if gust is not 0 to 9")
    void setGustRefusesOtherGusts() {
        refusedOutside(0, 9, "setGust(0, #)", ARGUMENT, gust -> x.setGust(0, gust));
        refusedOutside(0, 9, "setGust(7, #)", ARGUMENT, gust -> x.setGust(7, gust));
    }

    @Edge("setGust: of several exceptions the one that is named first")
    void setGustNamesTheHourFirst() {
        refused("setGust(8, 10)", INDEX, () -> x.setGust(8, 10));
        refused("setGust(-1, -1)", INDEX, () -> x.setGust(-1, -1));
    }

    @Edge("Gusts: the hour by the remainder of 8: the table begins again")
    void tableBeginsAgain() {
        for (int hour = 0; hour < 8; hour++) {
            x.setGust(hour, hour + 1);
        }
        int[] hours = {7, 8, 9, 15, 16, 23, 24, 63, 64, 65};
        for (int hour : hours) {
            x.pass(hour - x.count(0));
            due("count(1) in the hour " + hour, hour % 8 + 1, x.count(1));
        }
    }

    @Edge("Gusts: the table begins again while a sledge goes down")
    void tableBeginsAgainOnTheWayDown() {
        x.build(1);
        x.setGust(6, 2);
        x.setGust(7, 4);
        x.setGust(0, 0);
        x.setGust(1, 2);
        x.pass(6);
        x.go(0);
        dueHeights(15, 9, 5, 0);
        due("count(0)", 10, x.count(0));
    }

    @Edge("Gusts: the table begins again, for back, arrives and foresee too")
    void tableBeginsAgainForWhatWouldBe() {
        x.setGust(0, 9);
        x.pass(7);
        sledgeWith(x, 2, 0);
        dueUnchanged("arrives(0) of one that stands", 1, () -> x.arrives(0));
        x.go(0);
        dueUnchanged("arrives(0): one falls off in the hour 8", 1, () -> x.arrives(0));
        dueUnchanged("back(0): 4 + 8 + 4 + 4 down, 4 hours up", 8, () -> x.back(0));
        dueUnchanged("foresee(1, 7), the hour 7", 0, () -> x.foresee(1, 7));
        dueUnchanged("foresee(2, 7), the hours 7 and 8", 1, () -> x.foresee(2, 7));
        dueUnchanged("foresee(2, 5)", 1, () -> x.foresee(2, 5));
        dueUnchanged("foresee(4, 6)", 1, () -> x.foresee(4, 6));
        dueHeights(16, 8, 4, 0, 5, 10, 15, 20);
    }

    @Edge("pass: hours 1 to 60, the least: the hour is 1 greater")
    void passTakes1() {
        due("pass(1)", 0, x.pass(1));
        due("count(0)", 1, x.count(0));
    }

    @Edge("pass: hours 1 to 60, the greatest")
    void passTakes60() {
        due("pass(60)", 0, x.pass(60));
        due("count(0)", 60, x.count(0));
    }

    @Edge("pass: IllegalArgumentException if hours is not 1 to 60")
    void passRefusesOtherHours() {
        goDown(3, 5);
        refusedOutside(1, 60, "pass(#)", ARGUMENT, hours -> x.pass(hours));
        due("count(0)", 0, x.count(0));
        dueTold(0, 8, 3, 20, 1, 90, LIGHT);
    }

    @Edge("pass: several hours are as many single ones")
    void passOf60IsAsSingleHours() {
        goDown(8, 3);
        PumiceSledge other = allGusts(slope(), 3);
        sledgeWith(other, 8, 0);
        other.go(0);
        int brought = 0;
        for (int i = 0; i < 60; i++) {
            brought += other.pass(1);
        }
        due("pass(60)", brought, x.pass(60));
        due("digest()", other.digest(), x.digest());
    }

    @Edge("pass: Returns how many sacks come to the beach in them: none, with none that goes down")
    void passWithoutASledgeThatGoesDown() {
        x = beachWith(3, 2, 1);
        sledgeWith(x, 8, 0);
        due("pass(60)", 0, x.pass(60));
        dueBeach(3, 2, 1);
        dueTold(1, 8, 8, 20, 0, 240, LIGHT);
    }

    @Edge("pass: Returns how many sacks come to the beach in them: those of all sledges, once")
    void passWithSixFullSledges() {
        for (int layer = 0; layer < 5; layer++) {
            x.set(layer, 500, layer + 3);
        }
        for (int i = 0; i < 6; i++) {
            sledgeWith(x, 8, i % 5);
            x.go(i);
        }
        due("count(5)", 48, x.count(5));
        due("pass(9)", 0, x.pass(9));
        due("pass(1)", 48, x.pass(1));
        due("pass(60)", 0, x.pass(60));
        dueBeach(8, 24, 16);
    }

    @Edge("pass: an empty sledge goes down and up, and nothing comes")
    void passWithAnEmptySledge() {
        goDown(0, 0);
        due("pass(5)", 0, x.pass(5));
        dueTold(0, 8, 0, 0, 2, 0, -1);
        dueBeach(0, 0, 0);
        due("count(7)", 0, x.count(7));
    }

    /** The height behind the first hour, with so many sacks and a gust that throws none off. */
    private void dueFirstHour(int sacks, int gust, int height) {
        goDown(sacks, gust);
        x.pass(1);
        due("told(0, 2) with " + sacks + " and gust " + gust, height, x.told(0, 2));
        due("told(0, 1) with " + sacks + " and gust " + gust, sacks, x.told(0, 1));
    }

    @Edge("An hour: they come down by 4 - sacks / 3 + gust / 2: sacks / 3 is cut towards 0")
    void speedBySacks() {
        int[] heights = {16, 16, 16, 17, 17, 17, 18, 18, 18};
        for (int sacks = 0; sacks <= 8; sacks++) {
            dueFirstHour(sacks, 0, heights[sacks]);
            dueFirstHour(sacks, 1, heights[sacks]);
            dueFirstHour(sacks, 2, heights[sacks] - 1);
        }
    }

    @Edge("An hour: they come down by 4 - sacks / 3 + gust / 2: gust / 2 is cut towards 0")
    void speedByGust() {
        int[] heights = {18, 18, 17, 17, 16, 16, 15, 15, 14, 14};
        for (int gust = 0; gust <= 9; gust++) {
            dueFirstHour(8, gust, heights[gust]);
            dueFirstHour(5, gust, heights[gust] - 1);
            dueFirstHour(0, gust, heights[gust] - 2);
        }
    }

    @Edge("An hour: at most to the height 0: it comes just there")
    void comesDownJustTo0() {
        goDown(2, 0);
        dueHeights(16, 12, 8, 4);
        dueTold(0, 8, 2, 4, 1, 60, LIGHT);
        due("pass(1)", 2, x.pass(1));
        dueTold(0, 8, 0, 0, 2, 0, -1);
    }

    @Edge("An hour: at most to the height 0: it would come further")
    void comesDownNoFurtherThan0() {
        goDown(0, 9);
        dueHeights(12, 4, 0, 5);
        goDown(3, 0);
        dueHeights(17, 14, 11, 8, 5, 2);
        due("pass(1)", 3, x.pass(1));
        dueTold(0, 8, 0, 0, 2, 0, -1);
        dueHeights(5);
    }

    @Edge("An hour: a sledge at the height 1 has not come down yet")
    void heightOf1IsNotDown() {
        goDown(3, 0);
        x.setGust(5, 2);
        dueHeights(17, 14, 11, 8, 5, 1);
        dueTold(0, 8, 3, 1, 1, 90, LIGHT);
        dueBeach(0, 0, 0);
        due("pass(1)", 3, x.pass(1));
        dueTold(0, 8, 0, 0, 2, 0, -1);
        dueBeach(0, 0, 3);
    }

    @Edge("An hour: the slowest way down and up: eight sacks without a gust, 10 hours and 4")
    void slowestWay() {
        goDown(8, 0);
        dueHeights(18, 16, 14, 12, 10, 8, 6, 4, 2, 0, 5, 10, 15, 20, 20);
    }

    @Edge("An hour: the quickest way down and up: no sack and a gust of 8, 3 hours and 4")
    void quickestWay() {
        goDown(0, 8);
        dueHeights(12, 4, 0, 5, 10, 15, 20, 20);
    }

    /** How many sacks are aboard behind the first hour, and how many fell off. */
    private void dueFall(int sacks, int gust, int falls) {
        goDown(sacks, gust);
        int stones = x.count(8);
        due("pass(1)", 0, x.pass(1));
        String call = " with " + sacks + " and gust " + gust;
        due("told(0, 1)" + call, sacks - falls, x.told(0, 1));
        due("count(7)" + call, falls, x.count(7));
        due("count(8)" + call + ", its stones are lost", stones, x.count(8));
        due("count(6)" + call, 0, x.count(6));
    }

    @Edge("An hour: the last sack falls off by a gust above 4 and 2 for each: one sack, not by 6")
    void oneSackStaysBy6() {
        dueFall(1, 6, 0);
    }

    @Edge("An hour: the last sack falls off by a gust above 4 and 2 for each: one sack, by 7")
    void oneSackFallsBy7() {
        dueFall(1, 7, 1);
    }

    @Edge("An hour: the last sack falls off by a gust above 4 and 2 for each: two sacks, not by 8")
    void twoSacksStayBy8() {
        dueFall(2, 8, 0);
    }

    @Edge("An hour: the last sack falls off by a gust above 4 and 2 for each: two sacks, by 9")
    void oneOfTwoSacksFallsBy9() {
        dueFall(2, 9, 1);
    }

    @Edge("An hour: the last sack falls off by a gust above 4 and 2 for each: three, never")
    void threeSacksOrMoreStayBy9() {
        for (int sacks = 3; sacks <= 8; sacks++) {
            dueFall(sacks, 9, 0);
        }
    }

    @Edge("An hour: if one has sacks aboard: without any, none falls off")
    void noSackFallsOffAnEmptySledge() {
        for (int gust = 4; gust <= 9; gust++) {
            dueFall(0, gust, 0);
        }
    }

    @Edge("An hour: the last sack falls off, one in an hour, till there is none")
    void theLastSackFallsFirst() {
        x = allGusts(slope(), 9);
        sledgeWith(x, 1, 2);
        x.fill(0, 0);
        x.go(0);
        dueTold(0, 8, 2, 20, 1, 120, LIGHT);
        x.pass(1);
        dueTold(0, 8, 1, 12, 1, 90, HEAVY);
        x.pass(1);
        dueTold(0, 8, 0, 4, 1, 0, -1);
        due("pass(1)", 0, x.pass(1));
        dueTold(0, 8, 0, 0, 2, 0, -1);
        due("count(7)", 2, x.count(7));
        dueBeach(0, 0, 0);
    }

    @Edge("An hour: the last sack falls off ahead of that: in the hour in which it would unload")
    void sackFallsOffAheadOfUnloading() {
        goDown(2, 0);
        x.setGust(4, 9);
        dueHeights(16, 12, 8, 4);
        due("pass(1)", 1, x.pass(1));
        dueTold(0, 8, 0, 0, 2, 0, -1);
        dueBeach(0, 0, 1);
        due("count(7)", 1, x.count(7));
    }

    @Edge("An hour: a sledge that stands loses no sack, and does not come down")
    void aStandingSledgeKeepsItsSacks() {
        x = allGusts(slope(), 9);
        sledgeWith(x, 1, 0);
        due("pass(60)", 0, x.pass(60));
        dueTold(0, 8, 1, 20, 0, 30, LIGHT);
        due("count(7)", 0, x.count(7));
    }

    @Edge("An hour: sledges that go up, by 5 up, at most to 20; it stands there then, not earlier")
    void goesUpBy5To20() {
        goDown(0, 0);
        x.pass(5);
        int[] heights = {0, 5, 10, 15, 20, 20, 20};
        int[] courses = {2, 2, 2, 2, 0, 0, 0};
        for (int i = 0; i < heights.length; i++) {
            dueTold(0, 8, 0, heights[i], courses[i], 0, -1);
            x.pass(1);
        }
    }

    @Edge("An hour: sledges go up by 5, whatever the gust")
    void goesUpBy5InEveryGust() {
        goDown(0, 9);
        dueHeights(12, 4, 0, 5, 10, 15, 20, 20);
    }

    @Edge("An hour: a sledge at the height 0 unloads, and goes up from the next hour on")
    void unloadsAndGoesUpFromTheNextHourOn() {
        goDown(1, 8);
        x.setGust(0, 0);
        x.setGust(1, 0);
        dueHeights(16, 12, 4, 0);
        dueTold(0, 8, 0, 0, 2, 0, -1);
        due("count(7): one falls off by 8", 1, x.count(7));
        dueHeights(5);
    }

    @Edge("An hour: each sack lies on the beach then, by its kind")
    void unloadsEachKind() {
        x = slope();
        int sledge = x.build(6);
        int[] layers = {2, 0, 1, 0, 2, 0};
        for (int layer : layers) {
            x.fill(sledge, layer);
        }
        x.go(sledge);
        due("pass(9)", 0, x.pass(9));
        dueBeach(0, 0, 0);
        due("pass(1)", 6, x.pass(1));
        dueBeach(2, 1, 3);
        due("pass(60)", 0, x.pass(60));
        dueBeach(2, 1, 3);
    }

    @Edge("An hour: sledges go down and up in the same hour, each in its own way")
    void sledgesInTheSameHour() {
        x = slope();
        sledgeWith(x, 0, 0);
        sledgeWith(x, 8, 0);
        sledgeWith(x, 3, 1);
        x.go(0);
        x.go(1);
        x.pass(5);
        x.go(2);
        due("pass(1)", 0, x.pass(1));
        due("told(0, 2): it goes up", 5, x.told(0, 2));
        due("told(1, 2): it goes down", 8, x.told(1, 2));
        due("told(2, 2): it begins to go down", 17, x.told(2, 2));
        due("pass(4)", 8, x.pass(4));
        due("told(0, 3): it stands again", 0, x.told(0, 3));
        due("told(1, 3): it has unloaded", 2, x.told(1, 3));
        due("told(2, 3): it goes down", 1, x.told(2, 3));
    }

    @Edge("back: 0 if it stands, empty or full")
    void backOfOneThatStands() {
        x.build(8);
        sledgeWith(x, 8, 0);
        dueUnchanged("back(0)", 0, () -> x.back(0));
        dueUnchanged("back(1)", 0, () -> x.back(1));
    }

    @Edge("back: it is at the top still, but has to go down and up first")
    void backOfOneThatHasJustBegun() {
        goDown(0, 0);
        dueTold(0, 8, 0, 20, 1, 0, -1);
        dueUnchanged("back(0)", 9, () -> x.back(0));
    }

    @Edge("back: behind how many hours: the most, 14, and then one less in each hour, down to 0")
    void backOfTheSlowest() {
        goDown(8, 0);
        for (int hours = 14; hours >= 0; hours--) {
            int left = hours;
            dueUnchanged("back(0)", left, () -> x.back(0));
            due("told(0, 3) is 0", hours == 0, x.told(0, 3) == 0);
            x.pass(1);
        }
        dueUnchanged("back(0) later", 0, () -> x.back(0));
    }

    @Edge("back: behind how many hours: the fewest from the top, 7")
    void backOfTheQuickest() {
        goDown(0, 9);
        for (int hours = 7; hours >= 0; hours--) {
            int left = hours;
            dueUnchanged("back(0)", left, () -> x.back(0));
            x.pass(1);
        }
    }

    @Edge("back: of one that goes up: 4 hours at the height 0, 1 at the height 15")
    void backOfOneThatGoesUp() {
        goDown(0, 0);
        x.pass(5);
        for (int hours = 4; hours > 0; hours--) {
            int left = hours;
            due("told(0, 2)", 20 - 5 * hours, x.told(0, 2));
            dueUnchanged("back(0)", left, () -> x.back(0));
            x.pass(1);
        }
    }

    @Edge("back: by the gusts of these hours, not by that of the first alone")
    void backByTheGustsOfTheHours() {
        goDown(0, 0);
        x.setGust(3, 8);
        dueUnchanged("back(0): 4 + 4 + 4 + 8", 8, () -> x.back(0));
        x.setGust(3, 7);
        dueUnchanged("back(0): 4 + 4 + 4 + 7 + 4", 9, () -> x.back(0));
        x.setGust(4, 9);
        x.setGust(0, 1);
        dueUnchanged("back(0): 4 + 4 + 4 + 7 + 8", 9, () -> x.back(0));
        x.setGust(0, 2);
        dueUnchanged("back(0): 5 + 4 + 4 + 7", 8, () -> x.back(0));
    }

    @Edge("back: IndexOutOfBoundsException if there is no such sledge")
    void backRefusesNoSuchSledge() {
        refusedOutside(0, -1, "back(#) without any", INDEX, n -> x.back(n));
        x.build(8);
        due("back(0)", 0, x.back(0));
        refusedOutside(0, 0, "back(#) with one", INDEX, n -> x.back(n));
        for (int i = 1; i < 6; i++) {
            x.build(8);
        }
        x.go(5);
        due("back(5)", 9, x.back(5));
        refusedOutside(0, 5, "back(#) with six", INDEX, n -> x.back(n));
    }

    @Edge("arrives: none of an empty sledge, whether it stands or goes down")
    void arrivesOfAnEmptySledge() {
        x.build(8);
        dueUnchanged("arrives(0)", 0, () -> x.arrives(0));
        x.go(0);
        dueUnchanged("arrives(0)", 0, () -> x.arrives(0));
    }

    @Edge("arrives: all of a full sledge, by the greatest gusts too")
    void arrivesOfAFullSledge() {
        goDown(8, 9);
        dueUnchanged("arrives(0)", 8, () -> x.arrives(0));
        due("pass(4)", 8, x.pass(4));
    }

    @Edge("arrives: if it goes down now: one that stands is asked as if, and stands still")
    void arrivesOfOneThatStands() {
        x.setGust(1, 9);
        sledgeWith(x, 2, 0);
        sledgeWith(x, 3, 0);
        dueUnchanged("arrives(0): one falls off", 1, () -> x.arrives(0));
        dueUnchanged("arrives(1): none falls off", 3, () -> x.arrives(1));
        dueTold(0, 8, 2, 20, 0, 100, FAIR);
        x.pass(2);
        dueUnchanged("arrives(0) behind the gust", 2, () -> x.arrives(0));
    }

    @Edge("arrives: none, if all fall off on the way")
    void arrivesOfOneThatLosesAll() {
        goDown(2, 9);
        dueUnchanged("arrives(0)", 0, () -> x.arrives(0));
        due("pass(3)", 0, x.pass(3));
    }

    @Edge("arrives: or does already: by the hours that are left of the way")
    void arrivesOfOneThatGoesDown() {
        goDown(2, 0);
        x.setGust(3, 9);
        x.setGust(5, 9);
        for (int hour = 0; hour < 4; hour++) {
            dueUnchanged("arrives(0) in the hour " + hour, 1, () -> x.arrives(0));
            x.pass(1);
        }
        dueUnchanged("arrives(0): it is down in the hour 4", 0, () -> x.arrives(0));
        dueTold(0, 8, 0, 0, 2, 0, -1);
    }

    @Edge("arrives: a gust in the hour in which it comes down counts, one behind that does not")
    void arrivesByTheGustOfTheLastHour() {
        goDown(1, 0);
        x.setGust(5, 9);
        dueUnchanged("arrives(0), a gust in the hour 5", 1, () -> x.arrives(0));
        x.setGust(4, 7);
        dueUnchanged("arrives(0), a gust in the hour 4", 0, () -> x.arrives(0));
    }

    @Edge("arrives: 0, if it goes up")
    void arrivesOfOneThatGoesUp() {
        goDown(4, 0);
        x.pass(7);
        for (int height = 0; height < 20; height += 5) {
            dueTold(0, 8, 0, height, 2, 0, -1);
            dueUnchanged("arrives(0)", 0, () -> x.arrives(0));
            x.pass(1);
        }
    }

    @Edge("arrives: of the sacks that are aboard: none of the beach, none of another sledge")
    void arrivesOfItsOwnSacks() {
        x = beachWith(2, 2, 2);
        sledgeWith(x, 3, 0);
        sledgeWith(x, 5, 0);
        x.go(2);
        dueUnchanged("arrives(0)", 0, () -> x.arrives(0));
        dueUnchanged("arrives(1)", 3, () -> x.arrives(1));
        dueUnchanged("arrives(2)", 5, () -> x.arrives(2));
    }

    @Edge("arrives: 0, if it goes up: it, and not another one")
    void arrivesBesideOneThatGoesUp() {
        goDown(1, 0);
        x.pass(6);
        sledgeWith(x, 3, 1);
        due("told(0, 3)", 2, x.told(0, 3));
        dueUnchanged("arrives(1) of one that stands", 3, () -> x.arrives(1));
        x.go(1);
        dueUnchanged("arrives(1) of one that goes down", 3, () -> x.arrives(1));
        dueUnchanged("arrives(0)", 0, () -> x.arrives(0));
    }

    @Edge("arrives: IndexOutOfBoundsException if there is no such sledge")
    void arrivesRefusesNoSuchSledge() {
        refusedOutside(0, -1, "arrives(#) without any", INDEX, n -> x.arrives(n));
        sledgeWith(x, 2, 0);
        due("arrives(0)", 2, x.arrives(0));
        refusedOutside(0, 0, "arrives(#) with one", INDEX, n -> x.arrives(n));
        for (int i = 1; i < 6; i++) {
            sledgeWith(x, i % 5, 1);
        }
        due("arrives(4)", 4, x.arrives(4));
        due("arrives(5)", 0, x.arrives(5));
        refusedOutside(0, 5, "arrives(#) with six", INDEX, n -> x.arrives(n));
    }

    @Edge("foresee: hours 1 to 60, the least")
    void foreseeTakes1() {
        goDown(1, 7);
        dueUnchanged("foresee(1, 5)", 0, () -> x.foresee(1, 5));
        dueUnchanged("foresee(1, 6)", 0, () -> x.foresee(1, 6));
        dueUnchanged("foresee(1, 7)", 1, () -> x.foresee(1, 7));
    }

    @Edge("foresee: hours 1 to 60, the greatest")
    void foreseeTakes60() {
        goDown(8, 0);
        sledgeWith(x, 5, 1);
        dueUnchanged("foresee(60, 5)", 5, () -> x.foresee(60, 5));
        dueUnchanged("foresee(60, 6)", 8, () -> x.foresee(60, 6));
        dueUnchanged("foresee(60, 7)", 0, () -> x.foresee(60, 7));
    }

    @Edge("foresee: behind so many hours: in the very hour in which it unloads, and one earlier")
    void foreseeOfTheHourOfUnloading() {
        goDown(8, 0);
        dueUnchanged("foresee(9, 5)", 8, () -> x.foresee(9, 5));
        dueUnchanged("foresee(9, 6)", 0, () -> x.foresee(9, 6));
        dueUnchanged("foresee(10, 5)", 0, () -> x.foresee(10, 5));
        dueUnchanged("foresee(10, 6)", 8, () -> x.foresee(10, 6));
    }

    @Edge("foresee: IllegalArgumentException if hours is not 1 to 60")
    void foreseeRefusesOtherHours() {
        goDown(2, 9);
        refusedOutside(1, 60, "foresee(#, 5)", ARGUMENT, hours -> x.foresee(hours, 5));
        refusedOutside(1, 60, "foresee(#, 7)", ARGUMENT, hours -> x.foresee(hours, 7));
    }

    @Edge("foresee: IndexOutOfBoundsException if what is none of these: 5, 6 or 7")
    void foreseeRefusesOtherWhats() {
        goDown(2, 9);
        refusedOutside(5, 7, "foresee(1, #)", INDEX, what -> x.foresee(1, what));
        refusedOutside(5, 7, "foresee(60, #)", INDEX, what -> x.foresee(60, what));
        for (int what = 0; what < 5; what++) {
            int bad = what;
            refused("foresee(1, " + what + ")", INDEX, () -> x.foresee(1, bad));
        }
    }

    @Edge("foresee: of several exceptions the one that is named first")
    void foreseeNamesTheHoursFirst() {
        refused("foresee(0, 4)", ARGUMENT, () -> x.foresee(0, 4));
        refused("foresee(61, 8)", ARGUMENT, () -> x.foresee(61, 8));
        refused("foresee(60, 8)", INDEX, () -> x.foresee(60, 8));
    }

    @Edge("foresee: without sledges all stays as it is: nothing")
    void foreseeWithoutSledges() {
        for (int what = 5; what <= 7; what++) {
            int asked = what;
            dueUnchanged("foresee(1, " + what + ")", 0, () -> x.foresee(1, asked));
            dueUnchanged("foresee(60, " + what + ")", 0, () -> x.foresee(60, asked));
        }
    }

    @Edge("foresee: as count() has it: with what lies on the beach, and fell off, already")
    void foreseeCountsWhatIsThereAlready() {
        goDown(1, 9);
        x.pass(20);
        allGusts(x, 0);
        x.fill(0, 0);
        x.go(0);
        x.pass(20);
        x.fill(0, 0);
        x.go(0);
        dueUnchanged("foresee(1, 7)", 1, () -> x.foresee(1, 7));
        dueUnchanged("foresee(4, 6)", 1, () -> x.foresee(4, 6));
        dueUnchanged("foresee(5, 6)", 2, () -> x.foresee(5, 6));
        dueUnchanged("foresee(5, 5)", 0, () -> x.foresee(5, 5));
    }

    @Edge("foresee: if nothing is done: what stands, stands, and is counted aboard")
    void foreseeOfOneThatStands() {
        x = allGusts(slope(), 9);
        sledgeWith(x, 1, 0);
        dueUnchanged("foresee(60, 5)", 1, () -> x.foresee(60, 5));
        dueUnchanged("foresee(60, 6)", 0, () -> x.foresee(60, 6));
        dueUnchanged("foresee(60, 7)", 0, () -> x.foresee(60, 7));
    }

    @Edge("foresee: it is then as it was foreseen, in each of 60 hours, over all of the table")
    void foreseeIsWhatThenIs() {
        x = slope();
        for (int hour = 0; hour < 8; hour++) {
            x.setGust(hour, (5 * hour + 9) % 10);
        }
        x.pass(5);
        int[] sacks = {8, 2, 1, 0, 3, 2};
        for (int i = 0; i < 6; i++) {
            sledgeWith(x, sacks[i], i % 3);
            x.go(i);
        }
        int[][] foreseen = new int[61][3];
        for (int hours = 1; hours <= 60; hours++) {
            for (int what = 5; what <= 7; what++) {
                foreseen[hours][what - 5] = x.foresee(hours, what);
            }
        }
        for (int hours = 1; hours <= 60; hours++) {
            x.pass(1);
            for (int what = 5; what <= 7; what++) {
                String call = "foresee(" + hours + ", " + what + ")";
                due(call, x.count(what), foreseen[hours][what - 5]);
            }
        }
        due("sacks of all", 16, x.count(6) + x.count(7));
    }
}
