/** The boundary cases of "Terms", as far as they are about water, valves, gates and minutes. */
final class TermsWaterEdges {
    private TermsWaterEdges() {
    }

    static void check() {
        calls();
        divisions();
        basins();
        areas();
        volumes();
        levels();
        limits();
        valvesAndGates();
        openings();
        gates();
        equalizingAmounts();
        openingGates();
        time();
        rainAndDrain();
        flow();
        weatherLimits();
        spilling();
    }

    private static void calls() {
        Doc.says(Doc.TERMS, "An object is used for at most 512 calls after it has been made; what later"
                + " calls answer is free.");
        Locks used = longUsed(511);
        Check.same("the 512th call, rainTotal()", 509 * 200 * 9, used.rainTotal());
        Check.same("all calls", 512, Locks.callsOf(used));
        Check.same("the 512th call, spilledTotal()", 509 * 200 * 9 - 100, longUsed(511).spilledTotal());
        Check.same("the 512th call, time()", 509 * 200, longUsed(511).time());
        Check.same("the 511th call, undo()", 7, longUsed(510).undo());
        Check.same("the 512th call, undo()", 7, longUsed(511).undo());
        Check.same("the 512th call, advance(200)", 0, longUsed(511).advance(200));
        Check.same("the 512th call, renderLevels()", 13, longUsed(511).renderLevels());
        Check.same("the 512th call, type('w')", 1, longUsed(511).type('w'));
        Check.same("the 512th call, volumeAfter(0, 200)", 400, longUsed(511).volumeAfter(0, 200));
        Check.holds("the 512th call, isConsistent()", longUsed(511).isConsistent());
        Locks refused = longUsed(511);
        Check.fails("the 512th call, restore()", IllegalStateException.class, refused::restore);
    }

    /** Locks that have had so many calls: the weather is set, then 200 minutes pass again and again. */
    private static Locks longUsed(int calls) {
        Locks locks = weathered(9, 9, 0);
        for (int call = 2; call < calls; call++) {
            locks.advance(200);
        }
        return locks;
    }

    /** Locks with closed valves, some weather and some minutes. */
    private static Locks weathered(int rain, int drain, int minutes) {
        return Scenes.weathered(rain, drain, minutes);
    }

    private static void divisions() {
        Doc.says(Doc.TERMS, "All integer divisions round down.");
        for (int rain = 0; rain <= 9; rain++) {
            Check.same((300 + rain) + " / 10", 30, weathered(rain, 0, 1).level(0));
        }
        Check.same("310 / 10", 31, weathered(5, 0, 2).level(0));
        Check.same("311 / 10", 31, weathered(1, 0, 11).level(0));
        Check.same("59 / 10", 5, weathered(0, 1, 1).level(4));
        Check.same("51 / 10", 5, weathered(0, 9, 1).level(4));
        Check.same("50 / 10", 5, weathered(0, 5, 2).level(4));
        Check.same("49 / 10", 4, weathered(0, 1, 11).level(4));
        Check.same("1 / 10", 0, weathered(0, 1, 59).level(4));
        // The volumes of basin 1 are 144, 139, 134 and 129 litres, those of basin 2 5 more each time.
        Locks steps = Scenes.valves(0, 1, 0, 0);
        int[] upper = {24, 23, 22, 21};
        int[] lower = {18, 18, 19, 20};
        for (int minute = 0; minute < 4; minute++) {
            Check.same((144 - 5 * minute) + " / 6", upper[minute], steps.level(1));
            Check.same((108 + 5 * minute) + " / 6", lower[minute], steps.level(2));
            steps.advance(1);
        }
        // (6 * 300 - 10 * 144) / 16 is 22.5; each litre of rain adds 6 / 16.
        int[] amounts = {22, 22, 23, 23, 24, 24, 24, 25, 25, 25};
        for (int rain = 0; rain <= 9; rain++) {
            Check.same("(360 + 6 * " + rain + ") / 16", amounts[rain],
                    weathered(rain, 0, 1).equalizingAmount(0));
        }
        Check.same("(144 - 108) / 2", 18, Locks.make().equalizingAmount(1));
        Check.same("(144 - 103) / 2", 20,
                Scenes.later(Scenes.valves(0, 0, 1, 0), 1).equalizingAmount(1));
        // (10 * 72 - 6 * (60 - d)) / 16: 22.5, then 6 / 16 more for each drained litre.
        for (int drain = 0; drain <= 9; drain++) {
            Check.same("(360 + 6 * " + drain + ") / 16 below", amounts[drain],
                    weathered(0, drain, 1).equalizingAmount(3));
        }
    }

    private static void basins() {
        Doc.says(Doc.TERMS, "There are the basins 0 to 4 from top to bottom.");
        for (int basin : new int[] {0, 4}) {
            Locks locks = Locks.make();
            Check.same("volume of basin " + basin, basin == 0 ? 300 : 60, locks.volume(basin));
            Check.same("level of basin " + basin, basin == 0 ? 30 : 6, locks.level(basin));
            Check.same("nobody in basin " + basin, 0, locks.boatsIn(basin));
        }
        Class<IndexOutOfBoundsException> due = IndexOutOfBoundsException.class;
        for (int basin : new int[] {-1, 5}) {
            Twins.refuses("volume of basin " + basin, due, Scenes::busy, x -> x.volume(basin));
            Twins.refuses("level of basin " + basin, due, Scenes::busy, x -> x.level(basin));
            Twins.refuses("boats in basin " + basin, due, Scenes::busy, x -> x.boatsIn(basin));
        }
        Locks high = Locks.make();
        for (int basin = 0; basin < 4; basin++) {
            Check.holds(basin + " is above " + (basin + 1), high.isHigher(basin, basin + 1));
        }
    }

    private static void areas() {
        Doc.says(Doc.TERMS, "Their areas are 10, 6, 6, 6 and 10 square decimetres.");
        Locks locks = Locks.make();
        Check.same("the areas", "10 6 6 6 10", locks.area(0) + " " + locks.area(1) + " " + locks.area(2)
                + " " + locks.area(3) + " " + locks.area(4));
    }

    private static void volumes() {
        Doc.says(Doc.TERMS,
                "A basin contains a volume of water in litres, initially 300, 144, 108, 72 and 60 litres.");
        Check.same("initially", "300 144 108 72 60", Scenes.volumesOf(Locks.make()));
        Check.same("empty", "300 144 108 72 0", Scenes.volumesOf(weathered(0, 6, 10)));
        Check.same("and never less", "300 144 108 72 0", Scenes.volumesOf(weathered(0, 6, 11)));
    }

    private static void levels() {
        Doc.says(Doc.TERMS, "The exact level of a basin is the quotient of its volume and its area, in"
                + " decimetres; the rounded level is the result of the integer division.");
        int[] litres = {299, 300, 301, 309, 310};
        int[] rounded = {29, 30, 30, 30, 31};
        Locks[] locks = {Scenes.later(Scenes.valves(1, 0, 0, 0), 1), Locks.make(), weathered(1, 0, 1),
            weathered(9, 0, 1), weathered(2, 0, 5)};
        locks[0].setRain(4);
        locks[0].setValve(0, 0);
        locks[0].advance(1);
        for (int index = 0; index < 5; index++) {
            Check.same("litres", litres[index], locks[index].volume(0));
            Check.same("exact level of " + litres[index], litres[index] / 10.0, locks[index].exactLevel(0));
            Check.same("rounded level of " + litres[index], rounded[index], locks[index].level(0));
        }
        Locks empty = weathered(0, 9, 7);
        Check.same("exact level of none", 0.0, empty.exactLevel(4));
        Check.same("rounded level of none", 0, empty.level(4));
    }

    private static void limits() {
        Doc.says(Doc.TERMS, "A basin cannot contain more than 40 litres for each square decimetre of its"
                + " area; water beyond that is spilled.");
        Check.same("a litre below", "399 0", brimOf(weathered(9, 0, 11)));
        Locks brim = weathered(9, 0, 11);
        brim.setRain(1);
        brim.advance(1);
        Check.same("just full", "400 0", brimOf(brim));
        brim.advance(1);
        Check.same("a litre too much", "400 1", brimOf(brim));
        Locks over = weathered(9, 0, 11);
        over.setRain(2);
        over.advance(1);
        Check.same("a litre beyond the brim", "400 1", brimOf(over));
        Locks nine = weathered(9, 0, 11);
        nine.advance(1);
        Check.same("eight litres beyond the brim", "400 8", brimOf(nine));
        nine.advance(1);
        Check.same("all of it beyond the brim", "400 17", brimOf(nine));
        Locks full = Scenes.full();
        Check.same("all full", "400 239 238 237 393", Scenes.volumesOf(full));
        full.setRain(9);
        int spilled = full.spilledTotal();
        full.advance(200);
        Check.same("all full still", "400 239 238 237 393", Scenes.volumesOf(full));
        Check.same("all of it spilled", 1800, full.spilledTotal() - spilled);
        Check.same("nothing lost", 684 + full.rainTotal() - full.spilledTotal(), full.totalVolume());
    }

    private static String brimOf(Locks locks) {
        return locks.volume(0) + " " + locks.spilledTotal();
    }

    private static void valvesAndGates() {
        Doc.says(Doc.TERMS,
                "For each k from 0 to 3 there is a valve k and a gate k between the basins k and k + 1.");
        String[] after = {"285 159 108 72 60", "300 129 123 72 60", "300 144 93 87 60",
            "300 144 108 57 75"};
        for (int valve = 0; valve < 4; valve++) {
            Locks locks = Locks.make();
            locks.setValve(valve, 3);
            locks.advance(1);
            Check.same("valve " + valve + " joins its basins", after[valve], Scenes.volumesOf(locks));
            Locks open = Scenes.open();
            for (int gate = 0; gate < 4; gate++) {
                if (gate != valve) {
                    open.shutGate(gate);
                }
            }
            open.addBoat('r', 1, true);
            open.addBoat('r', 1, false);
            open.advance(1);
            Check.same("gate " + valve + " joins its basins", (valve == 0 ? 1 : 0) + " "
                    + (valve == 3 ? 3 : 4), Scenes.basinsOf(open));
        }
        Class<IndexOutOfBoundsException> due = IndexOutOfBoundsException.class;
        int[] none = {-1, 4};
        Twins.refusesEach("valve", due, Scenes::busy, none, (x, valve) -> x.setValve(valve, 1));
        Twins.refusesEach("gate to open", due, Scenes::busy, none, Locks::openGate);
        Twins.refusesEach("gate to shut", due, Scenes::busy, none, Locks::shutGate);
    }

    private static void openings() {
        Doc.says(Doc.TERMS, "A valve has an opening from 0 to 3, initially 0.");
        Locks locks = Locks.make();
        for (int valve = 0; valve < 4; valve++) {
            Check.same("initially", 0, locks.opening(valve));
            for (int opening = 0; opening <= 3; opening++) {
                locks.setValve(valve, opening);
                Check.same("an opening of valve " + valve, opening, locks.opening(valve));
            }
            int turned = valve;
            Twins.refusesEach("opening of valve " + valve, IllegalArgumentException.class, Scenes::busy,
                    new int[] {-1, 4}, (x, opening) -> x.setValve(turned, opening));
        }
    }

    private static void gates() {
        Doc.says(Doc.TERMS, "A gate is open or closed, initially closed.");
        Locks locks = Scenes.levelled();
        for (int gate = 0; gate < 4; gate++) {
            Check.holds("initially closed", !Locks.make().isOpen(gate));
            Check.holds("closed still", !locks.isOpen(gate));
            locks.openGate(gate);
            Check.holds("open", locks.isOpen(gate));
            locks.shutGate(gate);
            Check.holds("closed again", !locks.isOpen(gate));
        }
    }

    private static void equalizingAmounts() {
        Doc.says(Doc.TERMS, "The equalizing amount of two neighbouring basins is the greatest number of"
                + " whole litres that can flow from the basin with the higher exact level into the other"
                + " one without making the exact level of the other one higher than that of the first; it"
                + " is 0 if their exact levels are equal.");
        // 304 and 144: 24 litres make both levels equal, 280 / 10 and 168 / 6.
        Check.same("to equal levels", "24 24", amountsOf(weathered(4, 0, 1), 0));
        // 303 and 144: 24 litres would be too many, as 279 / 10 is less than 168 / 6.
        Check.same("a litre too many", "23 23", amountsOf(weathered(3, 0, 1), 0));
        // 305 and 144: with 25 litres 280 / 10 would be less than 169 / 6.
        Check.same("a litre more is too many", "24 24", amountsOf(weathered(5, 0, 1), 0));
        Check.same("to equal levels of small basins", "18 18", amountsOf(Locks.make(), 1));
        // 72 and 56: 24 litres make both levels equal, 48 / 6 and 80 / 10.
        Check.same("to equal levels below", "24 24", amountsOf(weathered(0, 4, 1), 3));
        Check.same("a litre too many below", "23 23", amountsOf(weathered(0, 3, 1), 3));
        String[] volumes = {"280 168", "126 126", "90 90", "48 80"};
        for (int gate = 0; gate < 4; gate++) {
            Locks equal = equalized(gate);
            Check.same("equal levels", volumes[gate], equal.volume(gate) + " " + equal.volume(gate + 1));
            Check.same("nothing between equal levels", "0 0", amountsOf(equal, gate));
            Check.same("nothing flows", 0, equal.flow(gate));
        }
        // A litre would only change which one is higher.
        Locks litre = Scenes.levelled();
        Check.same("a litre apart", "109 108", litre.volume(1) + " " + litre.volume(2));
        Check.same("nothing for one litre", "0 0", amountsOf(litre, 1));
        Locks dry = Scenes.dry();
        Check.same("hardly any water", "7 3 2 1 0", Scenes.volumesOf(dry));
        for (int gate = 0; gate < 4; gate++) {
            Check.same("nothing in gate " + gate, "0 0", amountsOf(dry, gate));
        }
    }

    /** The levels at this gate are just equal; the rain or the drain has made that possible before. */
    private static Locks equalized(int gate) {
        Locks locks = weathered(gate == 0 ? 4 : 0, gate == 3 ? 4 : 0, 1);
        locks.setRain(0);
        locks.setDrain(0);
        locks.setValve(gate, 3);
        return Scenes.later(locks, 2);
    }

    private static String amountsOf(Locks locks, int gate) {
        return locks.equalizingAmount(gate) + " " + locks.equalizingAmountByLitres(gate);
    }

    private static void openingGates() {
        Doc.says(Doc.TERMS, "A gate can be opened only if the equalizing amount of its basins is 0; it"
                + " stays open if their levels differ later.");
        for (int gate = 0; gate < 4; gate++) {
            Locks locks = Scenes.levelled();
            Check.same("no litre", 0, locks.equalizingAmount(gate));
            Check.same("gate " + gate + " opens", 1, locks.openGate(gate));
            int other = gate;
            Twins.refuses("gate " + gate + " at first", UnsupportedOperationException.class, Locks::make,
                    x -> x.openGate(other));
        }
        Check.same("one litre", 1, oneLitreApart().equalizingAmount(0));
        Twins.refuses("one litre", UnsupportedOperationException.class, TermsWaterEdges::oneLitreApart,
                x -> x.openGate(0));
        Locks opened = Scenes.later(Scenes.valves(3, 0, 0, 0), 2);
        opened.openGate(0);
        opened.setValve(1, 3);
        opened.advance(1);
        // 278 and 166 litres stay as they are; then 15 go on from basin 1.
        Check.same("they differ", "278 151 9", opened.volume(0) + " " + opened.volume(1) + " "
                + opened.equalizingAmount(0));
        Check.holds("open still", opened.isOpen(0));
        opened.setRain(9);
        opened.advance(200);
        Check.holds("open after many minutes", opened.isOpen(0));
    }

    /** From 278 and 166 litres nothing may flow; with two litres of rain there, one may. */
    private static Locks oneLitreApart() {
        Locks locks = Scenes.later(Scenes.valves(3, 0, 0, 0), 2);
        locks.setValve(0, 0);
        locks.setRain(2);
        locks.advance(1);
        return locks;
    }

    private static void time() {
        Doc.says(Doc.TERMS, "Time is counted in minutes from 0.");
        Check.same("from 0", 0, Locks.make().time());
        Check.same("one", 1, Scenes.later(Locks.make(), 1).time());
        Doc.says(Doc.TERMS, "First, the time increases by 1.");
        Locks locks = Locks.make();
        for (int minute = 1; minute <= 20; minute++) {
            locks.advance(1);
            Check.same("minute " + minute, minute, locks.time());
        }
        locks.advance(200);
        Check.same("200 more", 220, locks.time());
    }

    private static void rainAndDrain() {
        Doc.says(Doc.TERMS, "Second, the rain adds its litres to basin 0, and then the drain takes its"
                + " litres, but not more than there are, from basin 4.");
        Check.same("a litre each", "301 144 108 72 59", Scenes.volumesOf(weathered(1, 1, 1)));
        Check.same("nine litres each", "309 144 108 72 51", Scenes.volumesOf(weathered(9, 9, 1)));
        Check.same("none", "300 144 108 72 60", Scenes.volumesOf(weathered(0, 0, 1)));
        int[] before = {10, 9, 8, 1, 0};
        for (int litres : before) {
            Locks locks = weathered(0, 1, 60 - litres);
            locks.setDrain(9);
            locks.advance(1);
            Check.same("9 of " + litres, Math.max(litres - 9, 0), locks.volume(4));
            Check.same("9 of " + litres + ", taken", 60 - Math.max(litres - 9, 0), locks.drainTotal());
        }
        // The drain takes what is there before any water flows down.
        Locks first = weathered(0, 9, 7);
        first.setValve(3, 3);
        first.advance(1);
        Check.same("drained, then flowed", "57 15 60", first.volume(3) + " " + first.volume(4) + " "
                + first.drainTotal());
        first.advance(1);
        Check.same("drained 9 of 15", "69", "" + first.drainTotal());
    }

    private static void flow() {
        Doc.says(Doc.TERMS, "Third, water flows between the basins k and k + 1, for k from 0 to 3 in this"
                + " order: from the basin with the higher exact level into the other one flows the"
                + " equalizing amount, but, unless gate k is open, at most 5 litres for each step of the"
                + " opening of valve k.");
        for (int opening = 0; opening <= 3; opening++) {
            Locks locks = Scenes.valves(opening, 0, 0, opening);
            locks.advance(1);
            int flowed = 5 * opening;
            Check.same("opening " + opening, (300 - flowed) + " " + (144 + flowed) + " 108 "
                    + (72 - flowed) + " " + (60 + flowed), Scenes.volumesOf(locks));
        }
        // 36 litres apart: 18 equalize. 5 have flowed, 13 are left; then 10 and 3.
        Locks exact = Scenes.later(Scenes.valves(0, 1, 0, 0), 1);
        exact.setValve(1, 2);
        exact.advance(1);
        Check.same("10 of 13", "129 123", exact.volume(1) + " " + exact.volume(2));
        exact.advance(1);
        Check.same("3 of 3", "126 126", exact.volume(1) + " " + exact.volume(2));
        exact.advance(1);
        Check.same("none of none", "126 126", exact.volume(1) + " " + exact.volume(2));
        // The order: what gate 0 brings is there for gate 1, and so on.
        Locks chain = Scenes.later(Scenes.valves(3, 3, 3, 3), 1);
        Check.same("15 through all", "285 144 108 72 75", Scenes.volumesOf(chain));
        Locks upward = Scenes.valves(3, 3, 0, 0);
        upward.advance(2);
        // Minute 2: gate 0 has 285 and 144: 15; gate 1 has 159 and 123: 15.
        Check.same("downward first", "270 144 138 72 60", Scenes.volumesOf(upward));
        // 107 and 176 litres, less 9: through an open gate flow (10 * 107 - 6 * 167) / 16.
        Locks open = Scenes.levelled();
        open.openGate(3);
        open.setDrain(9);
        open.advance(1);
        Check.same("4 through the gate", "103 171", open.volume(3) + " " + open.volume(4));
        Locks shut = Scenes.levelled();
        shut.setDrain(9);
        shut.advance(1);
        Check.same("none through a closed gate", "107 167", shut.volume(3) + " " + shut.volume(4));
        bigFlow();
    }

    /** Water that has gathered above an open gate's pair goes through the gate at once. */
    private static void bigFlow() {
        Locks locks = Scenes.valves(0, 0, 0, 3);
        locks.advance(2);
        locks.openGate(3);
        locks.setValve(3, 0);
        locks.setValve(2, 3);
        locks.advance(1);
        // 50 and 82 at first; 15 come from basin 2, then (10 * 65 - 6 * 82) / 16 = 9 go on.
        Check.same("9 with valve 3 closed", "300 144 93 56 91", Scenes.volumesOf(locks));
        locks.shutGate(3);
        locks.advance(1);
        Check.same("none with gate and valve closed", "300 144 78 71 91", Scenes.volumesOf(locks));
        locks.setValve(3, 1);
        locks.setValve(2, 0);
        locks.advance(1);
        Check.same("5 of 10 with a step of the valve", "300 144 78 66 96", Scenes.volumesOf(locks));
    }

    private static void weatherLimits() {
        Doc.says(Doc.TERMS, "The rain is from 0 to 9 litres per minute and the drain is from 0 to 9 litres"
                + " per minute; both are initially 0.");
        Locks locks = Locks.make();
        Check.same("initially", "0 0", locks.rain() + " " + locks.drain());
        for (int litres : new int[] {0, 1, 8, 9}) {
            locks.setRain(litres);
            locks.setDrain(9 - litres);
            Check.same("set", litres + " " + (9 - litres), locks.rain() + " " + locks.drain());
        }
        int[] wrong = {-1, 10};
        Twins.refusesEach("rain", IllegalArgumentException.class, Scenes::busy, wrong, Locks::setRain);
        Twins.refusesEach("drain", IllegalArgumentException.class, Scenes::busy, wrong, Locks::setDrain);
    }

    private static void spilling() {
        Doc.says(Doc.TERMS,
                "What does not fit into a basin is spilled at once, whenever water is added to it.");
        // Before the valve makes room for it in the same minute.
        Locks locks = weathered(5, 0, 20);
        Check.same("just full", "400 0", brimOf(locks));
        locks.setValve(0, 3);
        locks.advance(1);
        Check.same("spilled before it could flow", "385 5", brimOf(locks));
        locks.advance(1);
        Check.same("room for it now", "375 5", brimOf(locks));
        Locks each = weathered(9, 0, 12);
        for (int minute = 0; minute < 5; minute++) {
            Check.same("each minute", "400 " + (8 + 9 * minute), brimOf(each));
            each.advance(1);
        }
    }
}
