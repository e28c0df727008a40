import java.util.NoSuchElementException;

/** The boundary cases of the promises 9 to 26: what the face tells of the water. */
final class WaterEdges {
    private static final Class<IndexOutOfBoundsException> INDEX = IndexOutOfBoundsException.class;
    private static final int LEAST = Integer.MIN_VALUE;
    private static final int MOST = Integer.MAX_VALUE;
    private static final int[] NO_BASINS = {-1, 5, 6, LEAST, MOST};
    private static final int[] NO_GATES = {-1, 4, 5, LEAST, MOST};
    private static final String NO_BASIN = "Throws `IndexOutOfBoundsException` if there is no such basin";
    private static final String NO_GATE = "Throws `IndexOutOfBoundsException` if there is no such gate";

    private WaterEdges() {
    }

    static void check() {
        area();
        volume();
        level();
        exactLevel();
        isHigher();
        equalizingAmount();
        equalizingAmountByLitres();
        opening();
        isOpen();
        flow();
        weather();
        totals();
        basinByLevel();
    }

    private static void area() {
        Doc.says(9, "Returns the area of a basin.");
        int[] due = {10, 6, 6, 6, 10};
        for (int basin = 0; basin < 5; basin++) {
            Check.same("of basin " + basin, due[basin], Locks.make().area(basin));
            Check.same("of basin " + basin + ", dry", due[basin], Scenes.dry().area(basin));
        }
        Doc.says(9, NO_BASIN);
        Check.same("0 and 4", 20, Locks.make().area(0) + Locks.make().area(4));
        Twins.refusesEach("basin", INDEX, Scenes::busy, NO_BASINS, Locks::area);
    }

    private static void volume() {
        Doc.says(10, "Returns the volume of water in a basin.");
        Check.same("at first", "300 144 108 72 60", Scenes.volumesOf(Locks.make()));
        Check.same("one litre", 1, Scenes.weathered(0, 1, 59).volume(4));
        Check.same("empty", 0, Scenes.weathered(0, 1, 60).volume(4));
        Check.same("empty still", 0, Scenes.weathered(0, 1, 61).volume(4));
        Check.same("a litre below the brim", 399, Scenes.weathered(9, 0, 11).volume(0));
        Check.same("full", 400, Scenes.weathered(5, 0, 20).volume(0));
        Check.same("full still", 400, Scenes.weathered(5, 0, 21).volume(0));
        Doc.says(10, NO_BASIN);
        Check.same("0 and 4", "300 60", Locks.make().volume(0) + " " + Locks.make().volume(4));
        Twins.refusesEach("basin", INDEX, Scenes::busy, NO_BASINS, Locks::volume);
    }

    private static void level() {
        Doc.says(11, "Returns the rounded level of a basin.");
        Check.same("of 300", 30, Locks.make().level(0));
        Check.same("of 309", 30, Scenes.weathered(9, 0, 1).level(0));
        Check.same("of 310", 31, Scenes.weathered(5, 0, 2).level(0));
        Check.same("of 59", 5, Scenes.weathered(0, 1, 1).level(4));
        Check.same("of 9", 0, Scenes.weathered(0, 1, 51).level(4));
        Check.same("of 10", 1, Scenes.weathered(0, 1, 50).level(4));
        Check.same("of 0", 0, Scenes.weathered(0, 1, 60).level(4));
        Check.same("of 400", 40, Scenes.weathered(5, 0, 20).level(0));
        Check.same("of 399", 39, Scenes.weathered(9, 0, 11).level(0));
        // 144 and 139, 108 and 113, in basins of 6 square decimetres.
        Locks steps = Scenes.later(Scenes.valves(0, 1, 0, 0), 1);
        Check.same("of 144 and 139", "24 23", Locks.make().level(1) + " " + steps.level(1));
        Check.same("of 108 and 113", "18 18", Locks.make().level(2) + " " + steps.level(2));
        Check.same("of the dry ones", "0 0 0 0 0", levelsOf(Scenes.dry()));
        Check.same("of the full ones", "40 39 39 39 39", levelsOf(Scenes.full()));
        Doc.says(11, NO_BASIN);
        Check.same("0 and 4", "30 6", Locks.make().level(0) + " " + Locks.make().level(4));
        Twins.refusesEach("basin", INDEX, Scenes::busy, NO_BASINS, Locks::level);
    }

    private static String levelsOf(Locks locks) {
        return locks.level(0) + " " + locks.level(1) + " " + locks.level(2) + " " + locks.level(3) + " "
                + locks.level(4);
    }

    private static void exactLevel() {
        Doc.says(12, "Returns the quotient of the volume and the area of a basin, both converted to"
                + " double.");
        Check.same("a whole number", 30.0, Locks.make().exactLevel(0));
        Check.same("not a whole number", 309 / 10.0, Scenes.weathered(9, 0, 1).exactLevel(0));
        Locks locks = Scenes.dry();
        int[] litres = {7, 3, 2, 1, 0};
        double[] areas = {10, 6, 6, 6, 10};
        for (int basin = 0; basin < 5; basin++) {
            Check.same("of " + litres[basin] + " litres", litres[basin] / areas[basin],
                    locks.exactLevel(basin));
        }
        Check.same("full", 40.0, Scenes.weathered(5, 0, 20).exactLevel(0));
        Check.same("a float would be another one", 139 / 6.0,
                Scenes.later(Scenes.valves(0, 1, 0, 0), 1).exactLevel(1));
        Doc.says(12, NO_BASIN);
        Check.same("0", 30.0, Locks.make().exactLevel(0));
        Check.same("4", 6.0, Locks.make().exactLevel(4));
        Twins.refusesEach("basin", INDEX, Scenes::busy, NO_BASINS, Locks::exactLevel);
    }

    private static void isHigher() {
        Doc.says(13, "Returns whether the exact level of one basin is higher than that of another one.");
        Locks locks = Locks.make();
        for (int first = 0; first < 5; first++) {
            for (int second = 0; second < 5; second++) {
                Check.same(first + " and " + second, first < second, locks.isHigher(first, second));
            }
        }
        Locks near = Scenes.later(Scenes.valves(3, 0, 0, 0), 2);
        Check.same("27.8 and 27.67, the rounded levels", "27 27", near.level(0) + " " + near.level(1));
        Check.holds("27.8 and 27.67", near.isHigher(0, 1) && !near.isHigher(1, 0));
        Locks equal = Scenes.later(Scenes.valves(0, 3, 0, 0), 2);
        Check.holds("equal ones", !equal.isHigher(1, 2) && !equal.isHigher(2, 1));
        // 280 / 10 and 168 / 6: equal levels of different areas; then a litre more in basin 0.
        Locks areas = Scenes.weathered(4, 0, 1);
        areas.setRain(0);
        areas.setValve(0, 3);
        areas.advance(2);
        Check.same("280 and 168", "280 168", areas.volume(0) + " " + areas.volume(1));
        Check.holds("equal ones of different areas", !areas.isHigher(0, 1) && !areas.isHigher(1, 0));
        areas.setValve(0, 0);
        areas.setRain(1);
        areas.advance(1);
        Check.holds("a litre more", areas.isHigher(0, 1) && !areas.isHigher(1, 0));
        Locks empty = Scenes.weathered(0, 6, 10);
        Check.holds("one and the same", !empty.isHigher(4, 4) && !empty.isHigher(0, 0));
        Doc.says(13, "Throws `IndexOutOfBoundsException` if there is no such basin, for either argument");
        Check.holds("0 and 4", Locks.make().isHigher(0, 4));
        Twins.refusesEach("first", INDEX, Scenes::busy, NO_BASINS, (x, basin) -> x.isHigher(basin, 0));
        Twins.refusesEach("second", INDEX, Scenes::busy, NO_BASINS, (x, basin) -> x.isHigher(4, basin));
        Twins.refusesEach("both", INDEX, Scenes::busy, NO_BASINS, (x, basin) -> x.isHigher(basin, basin));
    }

    private static void equalizingAmount() {
        Doc.says(14, "Returns the equalizing amount of the basins of a gate, found by a division.");
        amounts(false);
        Doc.says(14, NO_GATE);
        Check.same("0 and 3", "22 22", Locks.make().equalizingAmount(0) + " "
                + Locks.make().equalizingAmount(3));
        Twins.refusesEach("gate", INDEX, Scenes::busy, NO_GATES, Locks::equalizingAmount);
    }

    private static void equalizingAmountByLitres() {
        Doc.says(15, "Returns the same number as equalizingAmount, found litre by litre.");
        amounts(true);
        Doc.says(15, NO_GATE);
        Check.same("0 and 3", "22 22", Locks.make().equalizingAmountByLitres(0) + " "
                + Locks.make().equalizingAmountByLitres(3));
        Twins.refusesEach("gate", INDEX, Scenes::busy, NO_GATES, Locks::equalizingAmountByLitres);
    }

    private static void amounts(boolean isByLitres) {
        Check.same("at first", "22 18 18 22", amountsOf(isByLitres, Locks.make()));
        Check.same("none", "0 0 0 0", amountsOf(isByLitres, Scenes.dry()));
        Check.same("none when all is full", "0 0 0 0", amountsOf(isByLitres, Scenes.full()));
        // (6 * 303 - 10 * 144) / 16 is 23.6, with 304 litres it is 24, with 305 litres 24.4.
        for (int rain = 3; rain <= 5; rain++) {
            Check.same("300 and " + rain, (rain == 3 ? 23 : 24) + " 18 18 22",
                    amountsOf(isByLitres, Scenes.weathered(rain, 0, 1)));
            Check.same("60 less " + rain, "22 18 18 " + (rain == 3 ? 23 : 24),
                    amountsOf(isByLitres, Scenes.weathered(0, rain, 1)));
        }
        // (10 * 72 - 6 * 0) / 16: basin 4 is empty.
        Check.same("into an empty one", "22 18 18 45", amountsOf(isByLitres, Scenes.weathered(0, 9, 7)));
        // (6 * 400 - 10 * 144) / 16: basin 0 is full.
        Check.same("out of a full one", "60 18 18 22", amountsOf(isByLitres, Scenes.weathered(9, 0, 12)));
        // 300, 126, 126, 72 and 60 litres.
        Check.same("just equal", "33 0 27 22",
                amountsOf(isByLitres, Scenes.later(Scenes.valves(0, 3, 0, 0), 2)));
    }

    private static String amountsOf(boolean isByLitres, Locks locks) {
        String amounts = "";
        for (int gate = 0; gate < 4; gate++) {
            amounts += (gate == 0 ? "" : " ") + (isByLitres ? locks.equalizingAmountByLitres(gate)
                    : locks.equalizingAmount(gate));
        }
        return amounts;
    }

    private static void opening() {
        Doc.says(16, "Returns the opening of a valve.");
        for (int valve = 0; valve < 4; valve++) {
            Check.same("at first", 0, Locks.make().opening(valve));
            for (int opening = 0; opening < 4; opening++) {
                Locks locks = Scenes.valves(1, 1, 1, 1);
                locks.setValve(valve, opening);
                Check.same("set", opening, locks.opening(valve));
            }
        }
        Doc.says(16, "Throws `IndexOutOfBoundsException` if there is no such valve");
        Check.same("0 and 3", "3 1", Scenes.valves(3, 0, 0, 1).opening(0) + " "
                + Scenes.valves(3, 0, 0, 1).opening(3));
        Twins.refusesEach("valve", INDEX, Scenes::busy, NO_GATES, Locks::opening);
    }

    private static void isOpen() {
        Doc.says(17, "Returns whether a gate is open.");
        for (int gate = 0; gate < 4; gate++) {
            Check.holds("closed at first", !Locks.make().isOpen(gate));
            Check.holds("open", Scenes.open().isOpen(gate));
        }
        Doc.says(17, NO_GATE);
        Check.holds("0 and 3", Scenes.open().isOpen(0) && Scenes.open().isOpen(3));
        Twins.refusesEach("gate", INDEX, Scenes::busy, NO_GATES, Locks::isOpen);
    }

    private static void flow() {
        Doc.says(18, "Returns how many litres would flow between the basins of a gate if only the third"
                + " step of a minute happened now for these basins alone.");
        for (int opening = 0; opening < 4; opening++) {
            Locks locks = Scenes.valves(opening, opening, opening, opening);
            for (int gate = 0; gate < 4; gate++) {
                Check.same("opening " + opening, 5 * opening, locks.flow(gate));
            }
        }
        // 18 equalize the basins 1 and 2: after 15 there are 3 left, after 10 there are 8, after 5, 13.
        for (int opening = 1; opening < 4; opening++) {
            Locks locks = Scenes.valves(0, opening, 0, 0);
            locks.advance(1);
            int left = 18 - 5 * opening;
            Check.same("left of 18", Math.min(left, 5 * opening), locks.flow(1));
            locks.setValve(1, 3);
            Check.same("with valve 1 wide open", left, locks.flow(1));
            locks.setValve(1, 0);
            Check.same("with valve 1 closed", 0, locks.flow(1));
        }
        for (int opening = 0; opening < 4; opening++) {
            Locks open = TermsScriptsEdges.openAndUnequal();
            open.setValve(0, opening);
            Check.same("through an open gate", 9, open.flow(0));
            open.shutGate(0);
            Check.same("through the valve", Math.min(9, 5 * opening), open.flow(0));
        }
        Locks weather = Scenes.valves(3, 0, 0, 3);
        weather.advance(2);
        weather.setRain(9);
        weather.setDrain(9);
        Check.same("the third step only: no weather", "0 0", weather.flow(0) + " " + weather.flow(3));
        // 126 litres in both; in a whole minute 15 more come from basin 0 first, and 7 go on.
        Locks alone = Scenes.later(Scenes.valves(0, 3, 0, 0), 2);
        alone.setValve(0, 3);
        Check.same("for these basins alone", 0, alone.flow(1));
        alone.advance(1);
        Check.same("in a whole minute", "285 134 133", alone.volume(0) + " " + alone.volume(1) + " "
                + alone.volume(2));
        Doc.says(18, "Returns the number of litres: positive if they flow to the lower basin, negative if"
                + " they flow to the upper basin, where the upper basin is the one with the lower number.");
        Check.same("down", 5, Scenes.valves(1, 1, 1, 1).flow(0));
        Check.same("down to the last", 5, Scenes.valves(1, 1, 1, 1).flow(3));
        Check.same("neither", 0, Scenes.later(Scenes.valves(0, 3, 0, 0), 2).flow(1));
        Doc.says(18, NO_GATE);
        Check.same("0 and 3", "10 15", Scenes.valves(2, 0, 0, 3).flow(0) + " "
                + Scenes.valves(2, 0, 0, 3).flow(3));
        Twins.refusesEach("gate", INDEX, Scenes::busy, NO_GATES, Locks::flow);
    }

    private static void weather() {
        Doc.says(19, "Returns the rain.");
        Check.same("at first", 0, Locks.make().rain());
        Check.same("the least", 0, Scenes.weathered(0, 5, 0).rain());
        Check.same("the most", 9, Scenes.weathered(9, 5, 0).rain());
        Doc.says(20, "Returns the drain.");
        Check.same("at first", 0, Locks.make().drain());
        Check.same("the least", 0, Scenes.weathered(5, 0, 0).drain());
        Check.same("the most", 9, Scenes.weathered(5, 9, 0).drain());
        Check.same("also when there is nothing to drain", 9, Scenes.weathered(5, 9, 50).drain());
    }

    private static void totals() {
        // Rain 9: after 11 minutes 399 litres, then 8 and 9 are spilled; drain 7: 56, then 4, then none.
        int[] minutes = {0, 1, 8, 9, 10, 11, 12, 13, 200};
        int[] rained = {0, 9, 72, 81, 90, 99, 108, 117, 1800};
        int[] drained = {0, 7, 56, 60, 60, 60, 60, 60, 60};
        int[] spilled = {0, 0, 0, 0, 0, 0, 8, 17, 1700};
        for (int index = 0; index < minutes.length; index++) {
            Locks locks = Scenes.weathered(9, 7, minutes[index]);
            String what = "after " + minutes[index] + " minutes";
            int due = 684 + rained[index] - drained[index] - spilled[index];
            Doc.says(21, "Returns the volume of water in all basins, added basin by basin.");
            Check.same(what, due, locks.totalVolume());
            Doc.says(22, "Returns the same number as totalVolume: the initial water plus the rain so far,"
                    + " minus the drained and the spilled water.");
            Check.same(what, due, locks.totalVolumeByAccounts());
            Doc.says(23, "Returns the litres that the rain has added so far, including what was spilled.");
            Check.same(what, rained[index], locks.rainTotal());
            Doc.says(24, "Returns the litres that the drain has taken so far.");
            Check.same(what, drained[index], locks.drainTotal());
            Doc.says(25, "Returns the litres that have been spilled so far.");
            Check.same(what, spilled[index], locks.spilledTotal());
        }
        Locks dry = Scenes.dry();
        Doc.says(21, "Returns the volume of water in all basins, added basin by basin.");
        Check.same("next to nothing", 13, dry.totalVolume());
        Doc.says(22, "Returns the same number as totalVolume: the initial water plus the rain so far,"
                + " minus the drained and the spilled water.");
        Check.same("next to nothing", 13, dry.totalVolumeByAccounts());
        Doc.says(24, "Returns the litres that the drain has taken so far.");
        Check.same("all but that", 671, dry.drainTotal());
    }

    private static void basinByLevel() {
        Doc.says(26, "Returns the basin at a rank when basins are sorted by exact level in descending"
                + " order, then by number in ascending order.");
        Doc.says(26, "- `rank`: the rank, counted from 0");
        Check.same("from 0", "0 1 2 3 4", ranksOf(Locks.make()));
        Doc.says(26, "Returns the basin at a rank when basins are sorted by exact level in descending"
                + " order, then by number in ascending order.");
        Locks equal = Scenes.later(Scenes.valves(0, 3, 0, 0), 2);
        Check.same("equal ones by number", "0 1 2 3 4", ranksOf(equal));
        Check.same("dry", "0 1 2 3 4", ranksOf(Scenes.dry()));
        Check.same("full", "0 1 2 3 4", ranksOf(Scenes.full()));
        Doc.says(26, "Throws `NoSuchElementException` if there is no such rank");
        Check.same("0 and 4", "0 4", Locks.make().basinByLevel(0) + " " + Locks.make().basinByLevel(4));
        Twins.refusesEach("rank", NoSuchElementException.class, Scenes::busy, NO_BASINS,
                Locks::basinByLevel);
    }

    private static String ranksOf(Locks locks) {
        return locks.basinByLevel(0) + " " + locks.basinByLevel(1) + " " + locks.basinByLevel(2) + " "
                + locks.basinByLevel(3) + " " + locks.basinByLevel(4);
    }
}
