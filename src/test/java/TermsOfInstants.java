/** The terms: what comes about at an instant. */
final class TermsOfInstants extends Notation {
    private TermsOfInstants() {
    }

    @Says(under = "Terms", words = "AN INSTANT, when the latest check did not fail and nothing was changed since:")
    static void instantsWantACheckThatDidNotFail() {
        Desk desk = new Desk();
        Due.is(STATE, desk.instants(1));
        int flow = desk.intFlow(0);
        Due.is(1, desk.check());
        Due.is(STATE, desk.instants(1));
        desk.define(flow, number(1));
        Due.is(STATE, desk.instants(1));
        desk.passes();
        desk.go(1);
        desk.define(flow, yes());
        Due.is(2, desk.check());
        Due.is(STATE, desk.instants(1));
    }

    @Says(under = "Terms", words = "AN INSTANT, when the latest check did not fail and nothing was changed since:")
    static void instantsWantACheckSinceTheLatestChange() {
        Desk desk = new Desk();
        desk.intInput(0);
        desk.passes();
        desk.go(1);
        int flow = desk.intFlow(0);
        Due.is(STATE, desk.instants(1));
        desk.define(flow, number(1));
        desk.passes();
        desk.go(1);
        desk.define(flow, number(1));
        Due.is(STATE, desk.instants(1));
        desk.passes();
        desk.go(1);
        // Neither the host nor the draft is what is checked.
        desk.host(0, 4);
        desk.write(19);
        desk.go(1);
        Due.is(2, desk.time());
    }

    @Says(under = "Terms",
        words = "each input that has the instant takes the value that the host has set last (0 or false at first);")
    static void inputsAre0OrFalseAtFirst() {
        Desk desk = new Desk();
        int bool = desk.boolInput(0);
        int number = desk.intInput(0);
        int late = desk.intInput(2);
        desk.passes();
        desk.go(1);
        Due.is(0, desk.value(bool));
        Due.is(0, desk.value(number));
        Due.is(0, desk.value(late));
    }

    @Says(under = "Terms",
        words = "each input that has the instant takes the value that the host has set last (0 or false at first);")
    static void inputsTakeWhatTheHostHasSetLast() {
        Desk desk = new Desk();
        int number = desk.intInput(0);
        desk.host(number, 3);
        desk.host(number, 4);
        desk.passes();
        desk.values(number, 4, 4);
        desk.host(number, 5);
        Due.is(4, desk.value(number));
        desk.host(number, 6);
        desk.host(number, HIGHEST);
        desk.values(number, HIGHEST, HIGHEST);
        desk.passes();
        desk.values(number, HIGHEST);
        desk.intInput(0);
        desk.passes();
        desk.values(number, HIGHEST);
    }

    @Says(under = "Terms",
        words = "each input that has the instant takes the value that the host has set last (0 or false at first);")
    static void anInputThatDoesNotHaveTheInstantTakesNothing() {
        Desk desk = new Desk();
        int bool = desk.boolInput(0);
        int sampled = desk.intInput(1);
        desk.passes();
        desk.host(sampled, 5);
        desk.go(1);
        Due.is(ELEMENT, desk.value(sampled));
        desk.host(bool, 1);
        desk.go(1);
        Due.is(5, desk.value(sampled));
        desk.host(bool, 0);
        desk.host(sampled, 6);
        desk.go(1);
        Due.is(5, desk.value(sampled));
        desk.host(sampled, 7);
        desk.host(bool, 1);
        desk.go(1);
        Due.is(7, desk.value(sampled));
    }

    @Says(under = "Terms", words = "then each flow with an equation that has it has the value of that.")
    static void equationsSeeTheInputsAndFlowsOfTheSameInstant() {
        // Each flow is made of a later one, and the last of an input that is later still.
        Desk desk = new Desk();
        for (int number = 0; number < 11; number++) {
            desk.intFlow(0);
        }
        int input = desk.intInput(0);
        for (int number = 0; number < 11; number++) {
            desk.define(number, add(number(1), flow(number + 1)));
        }
        desk.passes();
        for (int value : new int[] {5, -3, HIGHEST}) {
            desk.host(input, value);
            desk.go(1);
            Due.is(value + 11, desk.value(0));
            Due.is(value + 1, desk.value(10));
        }
    }

    @Says(under = "Terms", words = "then each flow with an equation that has it has the value of that.")
    static void beforeSeesFlowsThatComeLater() {
        // Flow 0 waits for nothing, and is what flow 1 was before; flow 1 waits for flow 0.
        Desk desk = new Desk();
        desk.intFlow(0);
        desk.intFlow(0);
        desk.define(0, first(number(1), before(flow(1))));
        desk.define(1, add(flow(0), flow(0)));
        desk.passes();
        desk.values(1, 2, 4, 8, 16);
        Due.is(8, desk.value(0));
        desk.go(27);
        Due.is(LOWEST, desk.value(1));
        desk.values(1, 0);
    }

    @Says(under = "Terms", words = "then each flow with an equation that has it has the value of that.")
    static void anEquationOnAClockIsWorkedOutAtItsInstantsOnly() {
        Desk desk = new Desk();
        int bool = desk.boolInput(0);
        int count = desk.intFlow(1);
        int other = desk.intFlow(2);
        desk.define(count, counter(count));
        desk.define(other, counter(other));
        desk.passes();
        desk.go(7);
        Due.is(ELEMENT, desk.value(count));
        Due.is(7, desk.value(other));
        desk.host(bool, 1);
        desk.go(3);
        Due.is(3, desk.value(count));
        Due.is(7, desk.value(other));
        desk.host(bool, 0);
        desk.go(1);
        Due.is(3, desk.value(count));
        Due.is(8, desk.value(other));
    }

    @Says(under = "Terms", words = "A flow that does not have the instant is ABSENT.")
    static void aFlowThatDoesNotHaveTheInstantIsAbsent() {
        Desk desk = new Desk();
        int bool = desk.boolInput(0);
        int input = desk.intInput(1);
        int equation = desk.intFlow(2);
        desk.define(equation, number(4));
        desk.passes();
        for (int value : new int[] {1, 0, 0, 1}) {
            desk.host(bool, value);
            desk.go(1);
            Due.is(1, desk.present(bool));
            Due.is(value, desk.present(input));
            Due.is(1 - value, desk.present(equation));
        }
    }
}
