/** A way to break one sentence of the document; the model can be made with one of them. */
enum Fault {
    STATE_NOT_CUT("the state becomes the lowest 48 bits of state * 25214903917 + 11"),
    LOWEST_BITS_DRAWN("the answer is its highest 31 bits, modulo n"),

    NUMBER_WITHOUT_K_0("A NUMBER: Is k 0: DRAW(21) - 10."),
    NUMBER_WITHOUT_SET("Is there no line SET in the methods: DRAW(21) - 10."),
    SETS_OF_METHOD_1_FIRST("the c of line SET number DRAW(how many there are) (counted from 0 through method 0 and then 1)"),
    SETS_OF_WATCHED_ALONE("the c of line SET number DRAW(how many there are) (watched or not)"),
    NUMBER_STOPS_AT_THE_EDGE("+ k - 2 (wrapping)"),

    FIELD_STEP_DRAWS_Y("A STEP: Is k 4: kind 4 + DRAW(4), x a NUMBER. (Only those draws are made.)"),
    REF_STEP_DRAWS_Y("is r < i, REF is r, else REF is -1 and y a NUMBER"),
    REF_OF_ONE_LESS("r = DRAW(i + 2)"),
    PLACE_IS_ALWAYS_0("A CASE: 1 + DRAW(2) steps, drawn for places 0, 1."),
    CASE_OF_ONE_STEP_MORE("A CASE: 1 + DRAW(2) steps"),

    JOINED_REF_KEEPS_ITS_NUMBER("where steps are put together, a REF goes on meaning the step it meant"),
    REF_TO_THE_OTHER_PARENT("if that step is not in the new case (came not along from the same parent), REF becomes -1"),
    REF_TO_THE_SAME_CASE("(The steps of two parents are different ones, also where both parents are the same case.)"),
    REF_STAYS_WHEN_MOVED_UP("where steps are moved, a REF goes on meaning the step it meant"),
    REF_STAYS_WHEN_MOVED_DOWN("where steps are left out, a REF goes on meaning the step it meant"),
    REF_TO_WHAT_WAS_TAKEN_OUT("if that step is not in the new case (was taken out), REF becomes -1"),

    PREFERRED_ARE_NOT_FRONT_0("all preferred ones are FRONT 0"),
    PREFERRED_WITHOUT_STEPS("the case with the least fitness for it (of such the one with the fewest steps) is preferred"),
    PREFERRED_IS_THE_LATEST("(of these the earliest) is preferred"),
    BEATEN_BY_ITS_EQUAL("A case is BEATEN by another if that has for at least one active goal a smaller fitness"),
    BEATEN_THOUGH_NEARER_ONCE("A case is BEATEN by another if that has for no active goal a greater fitness"),
    BEATEN_BY_FRONT_0("FRONT 1 are those of the others that none of the others beats"),
    FIRST_OF_THE_LIST_BEATS_NONE("that none of the others beats (the first of the list is one of them, unless it is preferred)"),
    ALL_BEATEN_ARE_FRONT_2("FRONT 2 likewise those of what is left then"),
    ALL_LEFT_ARE_FRONT_3("and so on (FRONT 3 are not all that are left behind FRONT 2)"),
    ALL_LEFT_ARE_FRONT_4("and so on (FRONT 4 are not all that are left behind FRONT 3)"),
    CROWD_OF_ALL_FRONTS("The CROWD of a case is the greatest number for another case of its front"),
    CROWD_OF_SEVERAL_CASES("the greatest number of active goals for which one and the same other case has a smaller fitness"),
    CROWD_OF_FOUND_GOALS("the greatest number of active goals"),
    CROWD_NOT_LOOKED_AT("The order is by front, then by crowd"),
    STEPS_BEFORE_CROWD("by crowd, then by the number of steps"),
    STEPS_NOT_LOOKED_AT("then by the number of steps"),
    LATER_BEFORE_EARLIER("then by the order before; the least first"),
    NO_ORDER_WITHOUT_ACTIVE_GOALS("THE ORDER of a list of cases (without an active goal all are in one front)"),
    ORDER_BY_EARLIER_GOALS("is put in order (by the goals that are active then)"),

    PARENT_BY_THE_GREATER("parent P is the case numbered by the lesser"),
    CUT_BEHIND_THE_STEP("s = DRAW(steps of P), t = DRAW(steps of Q)"),
    SEVENTH_STEP_STAYS("what comes after the sixth step falls away"),
    SECOND_CHILD_FIRST("Then the first child is changed and run (and archived), then the second."),
    CHILDREN_NOT_ARCHIVED("changed and run (and archived)"),
    STEP_PUT_INTO_SIX("CHANGED: 0: if there are fewer than six steps"),
    PLACE_DRAWN_THOUGH_FULL("CHANGED: 0: if there are fewer than six steps, p = DRAW(steps + 1)"),
    NO_STEP_PUT_AT_THE_END("a STEP drawn for place p = DRAW(steps + 1) is put in there"),
    STEP_DRAWN_FOR_THE_LAST_PLACE("a STEP drawn for place p is put in there"),
    ONLY_STEP_DRAWN("CHANGED: 1: if there are several steps, step DRAW(steps) is taken out."),
    X_STOPS_AT_THE_EDGE("x becomes x + DRAW(9) - 4 (wrapping)"),
    Y_DRAWN_FOR_A_FIELD("is it 2, and its kind 0 or 1: REF becomes -1 and y a NUMBER"),
    REF_STAYS_BESIDE_Y("REF becomes -1 and y a NUMBER"),
    SIX_IN_THE_POPULATION("the first five are the population"),

    ARCHIVED_FOR_AS_MANY_STEPS("if there is no archived case for the goal, or one with more steps"),
    ARCHIVED_STAYS("or one with more steps, this one becomes the archived case of the goal"),
    TRIAL_ARCHIVED("When a case has been run by start, evolve or run"),

    CUT_FROM_THE_FIRST("for each of its steps from the last to the first"),
    ONLY_STEP_TRIED("if another step is left"),
    REFERRED_TO_TRIED("and no step that is left refers to this one"),
    TAKEN_OUT_REFERS_STILL("no step that is left refers to this one (one that was taken out may)"),
    CUT_FOR_ALL_ITS_GOALS("if it covers g, the step is taken out"),
    NOTHING_CUT("the archived case of g, cut for g, is appended"),

    SUITE_GROWS("Makes a new suite: it is empty at first"),
    FALLING_ORDER("for each found goal g in rising order"),
    EVERY_FOUND_GOAL("for each found goal g that no case of the suite covers so far"),
    NONE_DROPPED("each case of it is taken out if each goal that it covers is covered by another one"),
    OTHERS_TURNED_ROUND("The others keep their order.");

    final String sentence;

    Fault(String sentence) {
        this.sentence = sentence;
    }
}
