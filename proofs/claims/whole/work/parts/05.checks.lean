/-! the tables, checked -/
def mm_good (M : mm_Me) : Bool := mm_mok M && (mm_code M).all (mm_eok M)
theorem mm_k_X0_cupsOn : mm_good mm_m_X0_cupsOn = true := by decide +kernel
theorem mm_k_X0_tiringFor : mm_good mm_m_X0_tiringFor = true := by decide +kernel
theorem mm_k_X0_debtFor : mm_good mm_m_X0_debtFor = true := by decide +kernel
theorem mm_k_X0_priceOf : mm_good mm_m_X0_priceOf = true := by decide +kernel
theorem mm_k_X0_failureOf : mm_good mm_m_X0_failureOf = true := by decide +kernel
theorem mm_k_X1_becomeLike : mm_good mm_m_X1_becomeLike = true := by decide +kernel
theorem mm_k_X1_has : mm_good mm_m_X1_has = true := by decide +kernel
theorem mm_k_X1_kindNumbered : mm_good mm_m_X1_kindNumbered = true := by decide +kernel
theorem mm_k_X1_isAwake : mm_good mm_m_X1_isAwake = true := by decide +kernel
theorem mm_k_X1_joins : mm_good mm_m_X1_joins = true := by decide +kernel
theorem mm_k_X1_thirstOf : mm_good mm_m_X1_thirstOf = true := by decide +kernel
theorem mm_k_X1_thirstOfAll : mm_good mm_m_X1_thirstOfAll = true := by decide +kernel
theorem mm_k_X1_goDays : mm_good mm_m_X1_goDays = true := by decide +kernel
theorem mm_k_X1_restSleepers : mm_good mm_m_X1_restSleepers = true := by decide +kernel
theorem mm_k_X1_pour : mm_good mm_m_X1_pour = true := by decide +kernel
theorem mm_k_X1_endDay : mm_good mm_m_X1_endDay = true := by decide +kernel
theorem mm_k_X1_obeys : mm_good mm_m_X1_obeys = true := by decide +kernel
theorem mm_k_X1_turnsOver : mm_good mm_m_X1_turnsOver = true := by decide +kernel
theorem mm_k_X1_setIn : mm_good mm_m_X1_setIn = true := by decide +kernel
theorem mm_k_X1_owedInAll : mm_good mm_m_X1_owedInAll = true := by decide +kernel
theorem mm_k_X1_tiredInAll : mm_good mm_m_X1_tiredInAll = true := by decide +kernel
theorem mm_k_X1_drinkersOf : mm_good mm_m_X1_drinkersOf = true := by decide +kernel
theorem mm_k_X1_heaviestWaker : mm_good mm_m_X1_heaviestWaker = true := by decide +kernel
theorem mm_k_X1_deepestDrinker : mm_good mm_m_X1_deepestDrinker = true := by decide +kernel
theorem mm_k_X1_aloneBits : mm_good mm_m_X1_aloneBits = true := by decide +kernel
theorem mm_k_X2_cupsOn : mm_good mm_m_X2_cupsOn = true := by decide +kernel
theorem mm_k_X2_priceOf : mm_good mm_m_X2_priceOf = true := by decide +kernel
theorem mm_k_X3_cupsOn : mm_good mm_m_X3_cupsOn = true := by decide +kernel
theorem mm_k_X3_tiringFor : mm_good mm_m_X3_tiringFor = true := by decide +kernel
theorem mm_k_X3_priceOf : mm_good mm_m_X3_priceOf = true := by decide +kernel
theorem mm_k_X4_cupsOn : mm_good mm_m_X4_cupsOn = true := by decide +kernel
theorem mm_k_X4_tiringFor : mm_good mm_m_X4_tiringFor = true := by decide +kernel
theorem mm_k_X4_debtFor : mm_good mm_m_X4_debtFor = true := by decide +kernel
theorem mm_k_X4_priceOf : mm_good mm_m_X4_priceOf = true := by decide +kernel
theorem mm_k_X4_failureOf : mm_good mm_m_X4_failureOf = true := by decide +kernel
theorem mm_k_X5_cupsOn : mm_good mm_m_X5_cupsOn = true := by decide +kernel
theorem mm_k_X5_tiringFor : mm_good mm_m_X5_tiringFor = true := by decide +kernel
theorem mm_k_X6_cupsOn : mm_good mm_m_X6_cupsOn = true := by decide +kernel
theorem mm_k_X6_tiringFor : mm_good mm_m_X6_tiringFor = true := by decide +kernel
theorem mm_k_X6_priceOf : mm_good mm_m_X6_priceOf = true := by decide +kernel
theorem mm_k_X7_cupsOn : mm_good mm_m_X7_cupsOn = true := by decide +kernel
theorem mm_k_X7_tiringFor : mm_good mm_m_X7_tiringFor = true := by decide +kernel
theorem mm_k_X7_debtFor : mm_good mm_m_X7_debtFor = true := by decide +kernel
theorem mm_k_X7_priceOf : mm_good mm_m_X7_priceOf = true := by decide +kernel
theorem mm_k_X8_becomeRow : mm_good mm_m_X8_becomeRow = true := by decide +kernel
theorem mm_k_X8_hasPlace : mm_good mm_m_X8_hasPlace = true := by decide +kernel
theorem mm_k_X8_hasPlaces : mm_good mm_m_X8_hasPlaces = true := by decide +kernel
theorem mm_k_X8_at : mm_good mm_m_X8_at = true := by decide +kernel
theorem mm_k_X8_setAt : mm_good mm_m_X8_setAt = true := by decide +kernel
theorem mm_k_X8_numberAt : mm_good mm_m_X8_numberAt = true := by decide +kernel
theorem mm_k_X8_leastOfSort : mm_good mm_m_X8_leastOfSort = true := by decide +kernel
theorem mm_k_X8_allows : mm_good mm_m_X8_allows = true := by decide +kernel
theorem mm_k_X9_cupsOn : mm_good mm_m_X9_cupsOn = true := by decide +kernel
theorem mm_k_X9_tiringFor : mm_good mm_m_X9_tiringFor = true := by decide +kernel
theorem mm_k_X9_debtFor : mm_good mm_m_X9_debtFor = true := by decide +kernel
theorem mm_k_X9_priceOf : mm_good mm_m_X9_priceOf = true := by decide +kernel
theorem mm_k_X9_failureOf : mm_good mm_m_X9_failureOf = true := by decide +kernel
theorem mm_k_X10_treaty : mm_good mm_m_X10_treaty = true := by decide +kernel
theorem mm_k_X10_drinker : mm_good mm_m_X10_drinker = true := by decide +kernel
theorem mm_k_X10_waker : mm_good mm_m_X10_waker = true := by decide +kernel
theorem mm_k_X10_comes : mm_good mm_m_X10_comes = true := by decide +kernel
theorem mm_k_X10_wakes : mm_good mm_m_X10_wakes = true := by decide +kernel
theorem mm_k_X10_tires : mm_good mm_m_X10_tires = true := by decide +kernel
theorem mm_k_X10_sleeps : mm_good mm_m_X10_sleeps = true := by decide +kernel
theorem mm_k_X10_bags : mm_good mm_m_X10_bags = true := by decide +kernel
theorem mm_k_X10_days : mm_good mm_m_X10_days = true := by decide +kernel
theorem mm_k_X10_owesThen : mm_good mm_m_X10_owesThen = true := by decide +kernel
theorem mm_k_X10_tiredThen : mm_good mm_m_X10_tiredThen = true := by decide +kernel
theorem mm_k_X10_then : mm_good mm_m_X10_then = true := by decide +kernel
theorem mm_k_X10_firstAsleep : mm_good mm_m_X10_firstAsleep = true := by decide +kernel
theorem mm_k_X10_out : mm_good mm_m_X10_out = true := by decide +kernel
theorem mm_k_X10_bestWaker : mm_good mm_m_X10_bestWaker = true := by decide +kernel
theorem mm_k_X10_match : mm_good mm_m_X10_match = true := by decide +kernel
theorem mm_k_X10_milk : mm_good mm_m_X10_milk = true := by decide +kernel
theorem mm_k_X10_fewest : mm_good mm_m_X10_fewest = true := by decide +kernel
theorem mm_k_X10_store : mm_good mm_m_X10_store = true := by decide +kernel
theorem mm_k_X10_heaviest : mm_good mm_m_X10_heaviest = true := by decide +kernel
theorem mm_k_X10_rest : mm_good mm_m_X10_rest = true := by decide +kernel
theorem mm_k_X10_whatIs : mm_good mm_m_X10_whatIs = true := by decide +kernel
theorem mm_k_X10_shed : mm_good mm_m_X10_shed = true := by decide +kernel
theorem mm_k_X10_two : mm_good mm_m_X10_two = true := by decide +kernel
theorem mm_k_X10_falls : mm_good mm_m_X10_falls = true := by decide +kernel
theorem mm_k_X10_mean : mm_good mm_m_X10_mean = true := by decide +kernel
theorem mm_k_X10_forged : mm_good mm_m_X10_forged = true := by decide +kernel
theorem mm_k_X10_judge : mm_good mm_m_X10_judge = true := by decide +kernel
theorem mm_k_X10_years : mm_good mm_m_X10_years = true := by decide +kernel
theorem mm_k_X10_image : mm_good mm_m_X10_image = true := by decide +kernel
theorem mm_k_X10_restore : mm_good mm_m_X10_restore = true := by decide +kernel
theorem mm_k_X10_count : mm_good mm_m_X10_count = true := by decide +kernel
theorem mm_k_X10_keep : mm_good mm_m_X10_keep = true := by decide +kernel
theorem mm_k_X10_row : mm_good mm_m_X10_row = true := by decide +kernel
theorem mm_k_X10_put : mm_good mm_m_X10_put = true := by decide +kernel
theorem mm_k_X10_copy : mm_good mm_m_X10_copy = true := by decide +kernel
theorem mm_k_X10_cost : mm_good mm_m_X10_cost = true := by decide +kernel
theorem mm_k_X10_isBetween : mm_good mm_m_X10_isBetween = true := by decide +kernel
theorem mm_k_X10_isWaker : mm_good mm_m_X10_isWaker = true := by decide +kernel
theorem mm_k_X10_isWakerOrNobody : mm_good mm_m_X10_isWakerOrNobody = true := by decide +kernel
theorem mm_k_X10_isShelf : mm_good mm_m_X10_isShelf = true := by decide +kernel
theorem mm_k_X10_refusalUnless : mm_good mm_m_X10_refusalUnless = true := by decide +kernel
theorem mm_k_X10_refusedLong : mm_good mm_m_X10_refusedLong = true := by decide +kernel
theorem mm_k_X10_digitsBehind : mm_good mm_m_X10_digitsBehind = true := by decide +kernel
theorem mm_k_X10_isLetter : mm_good mm_m_X10_isLetter = true := by decide +kernel
theorem mm_k_X10_firstBadByte : mm_good mm_m_X10_firstBadByte = true := by decide +kernel
theorem mm_k_X10_thinkDaysOn : mm_good mm_m_X10_thinkDaysOn = true := by decide +kernel
theorem mm_k_X10_owedBehindWithWaker : mm_good mm_m_X10_owedBehindWithWaker = true := by decide +kernel
theorem mm_k_X10_owedBehindWithMilk : mm_good mm_m_X10_owedBehindWithMilk = true := by decide +kernel
theorem mm_k_X10_owedBehindWithout : mm_good mm_m_X10_owedBehindWithout = true := by decide +kernel
theorem mm_k_X10_owedBehindKeeping : mm_good mm_m_X10_owedBehindKeeping = true := by decide +kernel
theorem mm_k_X10_owedBehindFalls : mm_good mm_m_X10_owedBehindFalls = true := by decide +kernel
theorem mm_k_X10_mindOwesAsTold : mm_good mm_m_X10_mindOwesAsTold = true := by decide +kernel
theorem mm_k_X10_gainInMind : mm_good mm_m_X10_gainInMind = true := by decide +kernel
theorem mm_k_X10_fillDrunkBehind : mm_good mm_m_X10_fillDrunkBehind = true := by decide +kernel
theorem mm_k_X10_bagsGoAsTold : mm_good mm_m_X10_bagsGoAsTold = true := by decide +kernel
theorem mm_k_X10_matchCell : mm_good mm_m_X10_matchCell = true := by decide +kernel
theorem mm_k_X10_mostWokenFrom : mm_good mm_m_X10_mostWokenFrom = true := by decide +kernel
theorem mm_k_X10_fillMostWoken : mm_good mm_m_X10_fillMostWoken = true := by decide +kernel
theorem mm_k_X10_firstMatchOf : mm_good mm_m_X10_firstMatchOf = true := by decide +kernel
theorem mm_k_X10_power : mm_good mm_m_X10_power = true := by decide +kernel
theorem mm_k_X10_partOfFraction : mm_good mm_m_X10_partOfFraction = true := by decide +kernel
theorem mm_k_X10_nextSeed : mm_good mm_m_X10_nextSeed = true := by decide +kernel
theorem mm_k_X10_drawOf : mm_good mm_m_X10_drawOf = true := by decide +kernel
theorem mm_k_X11_isIn : mm_good mm_m_X11_isIn = true := by decide +kernel
theorem mm_k_X11_least : mm_good mm_m_X11_least = true := by decide +kernel
theorem mm_k_X11_lessBy : mm_good mm_m_X11_lessBy = true := by decide +kernel
theorem mm_k_X11_copies : mm_good mm_m_X11_copies = true := by decide +kernel
theorem mm_k_X11_of : mm_good mm_m_X11_of = true := by decide +kernel
theorem mm_k_X11_isDrinker : mm_good mm_m_X11_isDrinker = true := by decide +kernel
theorem mm_k_X11_isWaker : mm_good mm_m_X11_isWaker = true := by decide +kernel
theorem mm_k_X11_isWakerOrNone : mm_good mm_m_X11_isWakerOrNone = true := by decide +kernel
theorem mm_k_X11_has : mm_good mm_m_X11_has = true := by decide +kernel
theorem mm_k_X11_bits : mm_good mm_m_X11_bits = true := by decide +kernel
theorem mm_k_X11_drinksBy : mm_good mm_m_X11_drinksBy = true := by decide +kernel
theorem mm_k_X11_tiresBy : mm_good mm_m_X11_tiresBy = true := by decide +kernel
theorem mm_k_X11_owesBy : mm_good mm_m_X11_owesBy = true := by decide +kernel
theorem mm_k_X11_isAwake : mm_good mm_m_X11_isAwake = true := by decide +kernel
theorem mm_k_X11_wakesUp : mm_good mm_m_X11_wakesUp = true := by decide +kernel
theorem mm_k_X11_drinks : mm_good mm_m_X11_drinks = true := by decide +kernel
theorem mm_k_X11_liesDown : mm_good mm_m_X11_liesDown = true := by decide +kernel
theorem mm_k_X11_day : mm_good mm_m_X11_day = true := by decide +kernel
theorem mm_k_X11_daysOn : mm_good mm_m_X11_daysOn = true := by decide +kernel
theorem mm_k_X11_allOwed : mm_good mm_m_X11_allOwed = true := by decide +kernel
theorem mm_k_X11_allTired : mm_good mm_m_X11_allTired = true := by decide +kernel
theorem mm_k_X11_here : mm_good mm_m_X11_here = true := by decide +kernel
theorem mm_k_X11_readsNumber : mm_good mm_m_X11_readsNumber = true := by decide +kernel
theorem mm_k_X11_readsStatement : mm_good mm_m_X11_readsStatement = true := by decide +kernel
theorem mm_k_X11_adds : mm_good mm_m_X11_adds = true := by decide +kernel
theorem mm_k_X11_isDone : mm_good mm_m_X11_isDone = true := by decide +kernel
theorem mm_k_X11_treaty : mm_good mm_m_X11_treaty = true := by decide +kernel
theorem mm_k_X11_nextOf : mm_good mm_m_X11_nextOf = true := by decide +kernel
theorem mm_k_X11_drinker : mm_good mm_m_X11_drinker = true := by decide +kernel
theorem mm_k_X11_manyOf : mm_good mm_m_X11_manyOf = true := by decide +kernel
theorem mm_k_X11_waker : mm_good mm_m_X11_waker = true := by decide +kernel
theorem mm_k_X11_comes : mm_good mm_m_X11_comes = true := by decide +kernel
theorem mm_k_X11_sets : mm_good mm_m_X11_sets = true := by decide +kernel
theorem mm_k_X11_wakes : mm_good mm_m_X11_wakes = true := by decide +kernel
theorem mm_k_X11_tires : mm_good mm_m_X11_tires = true := by decide +kernel
theorem mm_k_X11_sleeps : mm_good mm_m_X11_sleeps = true := by decide +kernel
theorem mm_k_X11_bags : mm_good mm_m_X11_bags = true := by decide +kernel
theorem mm_k_X11_days : mm_good mm_m_X11_days = true := by decide +kernel
theorem mm_k_X11_isLate : mm_good mm_m_X11_isLate = true := by decide +kernel
theorem mm_k_X11_takes : mm_good mm_m_X11_takes = true := by decide +kernel
theorem mm_k_X11_owesThen : mm_good mm_m_X11_owesThen = true := by decide +kernel
theorem mm_k_X11_tiredThen : mm_good mm_m_X11_tiredThen = true := by decide +kernel
theorem mm_k_X11_then : mm_good mm_m_X11_then = true := by decide +kernel
theorem mm_k_X11_firstAsleep : mm_good mm_m_X11_firstAsleep = true := by decide +kernel
theorem mm_k_X11_out : mm_good mm_m_X11_out = true := by decide +kernel
theorem mm_k_X11_owedNow : mm_good mm_m_X11_owedNow = true := by decide +kernel
theorem mm_k_X11_bestWaker : mm_good mm_m_X11_bestWaker = true := by decide +kernel
theorem mm_k_X11_canWake : mm_good mm_m_X11_canWake = true := by decide +kernel
theorem mm_k_X11_matches : mm_good mm_m_X11_matches = true := by decide +kernel
theorem mm_k_X11_wakerOf : mm_good mm_m_X11_wakerOf = true := by decide +kernel
theorem mm_k_X11_match : mm_good mm_m_X11_match = true := by decide +kernel
theorem mm_k_X11_milk : mm_good mm_m_X11_milk = true := by decide +kernel
theorem mm_k_X11_fewest : mm_good mm_m_X11_fewest = true := by decide +kernel
theorem mm_k_X11_store : mm_good mm_m_X11_store = true := by decide +kernel
theorem mm_k_X11_heaviest : mm_good mm_m_X11_heaviest = true := by decide +kernel
theorem mm_k_X11_rest : mm_good mm_m_X11_rest = true := by decide +kernel
theorem mm_k_X11_leastOf : mm_good mm_m_X11_leastOf = true := by decide +kernel
theorem mm_k_X11_isTold : mm_good mm_m_X11_isTold = true := by decide +kernel
theorem mm_k_X11_whatIs : mm_good mm_m_X11_whatIs = true := by decide +kernel
theorem mm_k_X11_isShedSo : mm_good mm_m_X11_isShedSo = true := by decide +kernel
theorem mm_k_X11_shed : mm_good mm_m_X11_shed = true := by decide +kernel
theorem mm_k_X11_hasBy : mm_good mm_m_X11_hasBy = true := by decide +kernel
theorem mm_k_X11_two : mm_good mm_m_X11_two = true := by decide +kernel
theorem mm_k_X11_gcd : mm_good mm_m_X11_gcd = true := by decide +kernel
theorem mm_k_X11_partOf : mm_good mm_m_X11_partOf = true := by decide +kernel
theorem mm_k_X11_falls : mm_good mm_m_X11_falls = true := by decide +kernel
theorem mm_k_X11_mean : mm_good mm_m_X11_mean = true := by decide +kernel
theorem mm_k_X11_forged : mm_good mm_m_X11_forged = true := by decide +kernel
theorem mm_k_X11_judge : mm_good mm_m_X11_judge = true := by decide +kernel
theorem mm_k_X11_drawn : mm_good mm_m_X11_drawn = true := by decide +kernel
theorem mm_k_X11_years : mm_good mm_m_X11_years = true := by decide +kernel
theorem mm_k_X11_image : mm_good mm_m_X11_image = true := by decide +kernel
theorem mm_k_X11_restore : mm_good mm_m_X11_restore = true := by decide +kernel
theorem mm_k_X11_count : mm_good mm_m_X11_count = true := by decide +kernel
theorem mm_k_X11_thrown : mm_good mm_m_X11_thrown = true := by decide +kernel
theorem mm_k_X11_isShelf : mm_good mm_m_X11_isShelf = true := by decide +kernel
theorem mm_k_X11_wrongRow : mm_good mm_m_X11_wrongRow = true := by decide +kernel
theorem mm_k_X11_wrongKept : mm_good mm_m_X11_wrongKept = true := by decide +kernel
theorem mm_k_X11_keep : mm_good mm_m_X11_keep = true := by decide +kernel
theorem mm_k_X11_row : mm_good mm_m_X11_row = true := by decide +kernel
theorem mm_k_X11_put : mm_good mm_m_X11_put = true := by decide +kernel
theorem mm_k_X11_element : mm_good mm_m_X11_element = true := by decide +kernel
theorem mm_k_X11_copy : mm_good mm_m_X11_copy = true := by decide +kernel
theorem mm_k_X11_costBy : mm_good mm_m_X11_costBy = true := by decide +kernel
theorem mm_k_X11_cost : mm_good mm_m_X11_cost = true := by decide +kernel
theorem mm_k_X11_toss : mm_good mm_m_X11_toss = true := by decide +kernel
theorem mm_k_J6_bitCount_0f7a4 : mm_good mm_m_J6_bitCount_0f7a4 = true := by decide +kernel
theorem mm_k_J7_fill_53178 : mm_good mm_m_J7_fill_53178 = true := by decide +kernel
def mm_tab_0 : List mm_Me := [mm_m_X0_cupsOn, mm_m_X0_tiringFor, mm_m_X0_debtFor, mm_m_X0_priceOf, mm_m_X0_failureOf, mm_m_X1_becomeLike, mm_m_X1_has, mm_m_X1_kindNumbered, mm_m_X1_isAwake, mm_m_X1_joins, mm_m_X1_thirstOf, mm_m_X1_thirstOfAll, mm_m_X1_goDays, mm_m_X1_restSleepers, mm_m_X1_pour, mm_m_X1_endDay, mm_m_X1_obeys, mm_m_X1_turnsOver, mm_m_X1_setIn, mm_m_X1_owedInAll]
theorem mm_chk_0 : ∀ M ∈ mm_tab_0, mm_good M = true := List.forall_mem_cons.mpr ⟨mm_k_X0_cupsOn, List.forall_mem_cons.mpr ⟨mm_k_X0_tiringFor, List.forall_mem_cons.mpr ⟨mm_k_X0_debtFor, List.forall_mem_cons.mpr ⟨mm_k_X0_priceOf, List.forall_mem_cons.mpr ⟨mm_k_X0_failureOf, List.forall_mem_cons.mpr ⟨mm_k_X1_becomeLike, List.forall_mem_cons.mpr ⟨mm_k_X1_has, List.forall_mem_cons.mpr ⟨mm_k_X1_kindNumbered, List.forall_mem_cons.mpr ⟨mm_k_X1_isAwake, List.forall_mem_cons.mpr ⟨mm_k_X1_joins, List.forall_mem_cons.mpr ⟨mm_k_X1_thirstOf, List.forall_mem_cons.mpr ⟨mm_k_X1_thirstOfAll, List.forall_mem_cons.mpr ⟨mm_k_X1_goDays, List.forall_mem_cons.mpr ⟨mm_k_X1_restSleepers, List.forall_mem_cons.mpr ⟨mm_k_X1_pour, List.forall_mem_cons.mpr ⟨mm_k_X1_endDay, List.forall_mem_cons.mpr ⟨mm_k_X1_obeys, List.forall_mem_cons.mpr ⟨mm_k_X1_turnsOver, List.forall_mem_cons.mpr ⟨mm_k_X1_setIn, List.forall_mem_cons.mpr ⟨mm_k_X1_owedInAll, fun _ h => absurd h List.not_mem_nil⟩⟩⟩⟩⟩⟩⟩⟩⟩⟩⟩⟩⟩⟩⟩⟩⟩⟩⟩⟩
def mm_tab_1 : List mm_Me := [mm_m_X1_tiredInAll, mm_m_X1_drinkersOf, mm_m_X1_heaviestWaker, mm_m_X1_deepestDrinker, mm_m_X1_aloneBits, mm_m_X2_cupsOn, mm_m_X2_priceOf, mm_m_X3_cupsOn, mm_m_X3_tiringFor, mm_m_X3_priceOf, mm_m_X4_cupsOn, mm_m_X4_tiringFor, mm_m_X4_debtFor, mm_m_X4_priceOf, mm_m_X4_failureOf, mm_m_X5_cupsOn, mm_m_X5_tiringFor, mm_m_X6_cupsOn, mm_m_X6_tiringFor, mm_m_X6_priceOf]
theorem mm_chk_1 : ∀ M ∈ mm_tab_1, mm_good M = true := List.forall_mem_cons.mpr ⟨mm_k_X1_tiredInAll, List.forall_mem_cons.mpr ⟨mm_k_X1_drinkersOf, List.forall_mem_cons.mpr ⟨mm_k_X1_heaviestWaker, List.forall_mem_cons.mpr ⟨mm_k_X1_deepestDrinker, List.forall_mem_cons.mpr ⟨mm_k_X1_aloneBits, List.forall_mem_cons.mpr ⟨mm_k_X2_cupsOn, List.forall_mem_cons.mpr ⟨mm_k_X2_priceOf, List.forall_mem_cons.mpr ⟨mm_k_X3_cupsOn, List.forall_mem_cons.mpr ⟨mm_k_X3_tiringFor, List.forall_mem_cons.mpr ⟨mm_k_X3_priceOf, List.forall_mem_cons.mpr ⟨mm_k_X4_cupsOn, List.forall_mem_cons.mpr ⟨mm_k_X4_tiringFor, List.forall_mem_cons.mpr ⟨mm_k_X4_debtFor, List.forall_mem_cons.mpr ⟨mm_k_X4_priceOf, List.forall_mem_cons.mpr ⟨mm_k_X4_failureOf, List.forall_mem_cons.mpr ⟨mm_k_X5_cupsOn, List.forall_mem_cons.mpr ⟨mm_k_X5_tiringFor, List.forall_mem_cons.mpr ⟨mm_k_X6_cupsOn, List.forall_mem_cons.mpr ⟨mm_k_X6_tiringFor, List.forall_mem_cons.mpr ⟨mm_k_X6_priceOf, fun _ h => absurd h List.not_mem_nil⟩⟩⟩⟩⟩⟩⟩⟩⟩⟩⟩⟩⟩⟩⟩⟩⟩⟩⟩⟩
def mm_tab_2 : List mm_Me := [mm_m_X7_cupsOn, mm_m_X7_tiringFor, mm_m_X7_debtFor, mm_m_X7_priceOf, mm_m_X8_becomeRow, mm_m_X8_hasPlace, mm_m_X8_hasPlaces, mm_m_X8_at, mm_m_X8_setAt, mm_m_X8_numberAt, mm_m_X8_leastOfSort, mm_m_X8_allows, mm_m_X9_cupsOn, mm_m_X9_tiringFor, mm_m_X9_debtFor, mm_m_X9_priceOf, mm_m_X9_failureOf, mm_m_X10_treaty, mm_m_X10_drinker, mm_m_X10_waker]
theorem mm_chk_2 : ∀ M ∈ mm_tab_2, mm_good M = true := List.forall_mem_cons.mpr ⟨mm_k_X7_cupsOn, List.forall_mem_cons.mpr ⟨mm_k_X7_tiringFor, List.forall_mem_cons.mpr ⟨mm_k_X7_debtFor, List.forall_mem_cons.mpr ⟨mm_k_X7_priceOf, List.forall_mem_cons.mpr ⟨mm_k_X8_becomeRow, List.forall_mem_cons.mpr ⟨mm_k_X8_hasPlace, List.forall_mem_cons.mpr ⟨mm_k_X8_hasPlaces, List.forall_mem_cons.mpr ⟨mm_k_X8_at, List.forall_mem_cons.mpr ⟨mm_k_X8_setAt, List.forall_mem_cons.mpr ⟨mm_k_X8_numberAt, List.forall_mem_cons.mpr ⟨mm_k_X8_leastOfSort, List.forall_mem_cons.mpr ⟨mm_k_X8_allows, List.forall_mem_cons.mpr ⟨mm_k_X9_cupsOn, List.forall_mem_cons.mpr ⟨mm_k_X9_tiringFor, List.forall_mem_cons.mpr ⟨mm_k_X9_debtFor, List.forall_mem_cons.mpr ⟨mm_k_X9_priceOf, List.forall_mem_cons.mpr ⟨mm_k_X9_failureOf, List.forall_mem_cons.mpr ⟨mm_k_X10_treaty, List.forall_mem_cons.mpr ⟨mm_k_X10_drinker, List.forall_mem_cons.mpr ⟨mm_k_X10_waker, fun _ h => absurd h List.not_mem_nil⟩⟩⟩⟩⟩⟩⟩⟩⟩⟩⟩⟩⟩⟩⟩⟩⟩⟩⟩⟩
def mm_tab_3 : List mm_Me := [mm_m_X10_comes, mm_m_X10_wakes, mm_m_X10_tires, mm_m_X10_sleeps, mm_m_X10_bags, mm_m_X10_days, mm_m_X10_owesThen, mm_m_X10_tiredThen, mm_m_X10_then, mm_m_X10_firstAsleep, mm_m_X10_out, mm_m_X10_bestWaker, mm_m_X10_match, mm_m_X10_milk, mm_m_X10_fewest, mm_m_X10_store, mm_m_X10_heaviest, mm_m_X10_rest, mm_m_X10_whatIs, mm_m_X10_shed]
theorem mm_chk_3 : ∀ M ∈ mm_tab_3, mm_good M = true := List.forall_mem_cons.mpr ⟨mm_k_X10_comes, List.forall_mem_cons.mpr ⟨mm_k_X10_wakes, List.forall_mem_cons.mpr ⟨mm_k_X10_tires, List.forall_mem_cons.mpr ⟨mm_k_X10_sleeps, List.forall_mem_cons.mpr ⟨mm_k_X10_bags, List.forall_mem_cons.mpr ⟨mm_k_X10_days, List.forall_mem_cons.mpr ⟨mm_k_X10_owesThen, List.forall_mem_cons.mpr ⟨mm_k_X10_tiredThen, List.forall_mem_cons.mpr ⟨mm_k_X10_then, List.forall_mem_cons.mpr ⟨mm_k_X10_firstAsleep, List.forall_mem_cons.mpr ⟨mm_k_X10_out, List.forall_mem_cons.mpr ⟨mm_k_X10_bestWaker, List.forall_mem_cons.mpr ⟨mm_k_X10_match, List.forall_mem_cons.mpr ⟨mm_k_X10_milk, List.forall_mem_cons.mpr ⟨mm_k_X10_fewest, List.forall_mem_cons.mpr ⟨mm_k_X10_store, List.forall_mem_cons.mpr ⟨mm_k_X10_heaviest, List.forall_mem_cons.mpr ⟨mm_k_X10_rest, List.forall_mem_cons.mpr ⟨mm_k_X10_whatIs, List.forall_mem_cons.mpr ⟨mm_k_X10_shed, fun _ h => absurd h List.not_mem_nil⟩⟩⟩⟩⟩⟩⟩⟩⟩⟩⟩⟩⟩⟩⟩⟩⟩⟩⟩⟩
def mm_tab_4 : List mm_Me := [mm_m_X10_two, mm_m_X10_falls, mm_m_X10_mean, mm_m_X10_forged, mm_m_X10_judge, mm_m_X10_years, mm_m_X10_image, mm_m_X10_restore, mm_m_X10_count, mm_m_X10_keep, mm_m_X10_row, mm_m_X10_put, mm_m_X10_copy, mm_m_X10_cost, mm_m_X10_isBetween, mm_m_X10_isWaker, mm_m_X10_isWakerOrNobody, mm_m_X10_isShelf, mm_m_X10_refusalUnless, mm_m_X10_refusedLong]
theorem mm_chk_4 : ∀ M ∈ mm_tab_4, mm_good M = true := List.forall_mem_cons.mpr ⟨mm_k_X10_two, List.forall_mem_cons.mpr ⟨mm_k_X10_falls, List.forall_mem_cons.mpr ⟨mm_k_X10_mean, List.forall_mem_cons.mpr ⟨mm_k_X10_forged, List.forall_mem_cons.mpr ⟨mm_k_X10_judge, List.forall_mem_cons.mpr ⟨mm_k_X10_years, List.forall_mem_cons.mpr ⟨mm_k_X10_image, List.forall_mem_cons.mpr ⟨mm_k_X10_restore, List.forall_mem_cons.mpr ⟨mm_k_X10_count, List.forall_mem_cons.mpr ⟨mm_k_X10_keep, List.forall_mem_cons.mpr ⟨mm_k_X10_row, List.forall_mem_cons.mpr ⟨mm_k_X10_put, List.forall_mem_cons.mpr ⟨mm_k_X10_copy, List.forall_mem_cons.mpr ⟨mm_k_X10_cost, List.forall_mem_cons.mpr ⟨mm_k_X10_isBetween, List.forall_mem_cons.mpr ⟨mm_k_X10_isWaker, List.forall_mem_cons.mpr ⟨mm_k_X10_isWakerOrNobody, List.forall_mem_cons.mpr ⟨mm_k_X10_isShelf, List.forall_mem_cons.mpr ⟨mm_k_X10_refusalUnless, List.forall_mem_cons.mpr ⟨mm_k_X10_refusedLong, fun _ h => absurd h List.not_mem_nil⟩⟩⟩⟩⟩⟩⟩⟩⟩⟩⟩⟩⟩⟩⟩⟩⟩⟩⟩⟩
def mm_tab_5 : List mm_Me := [mm_m_X10_digitsBehind, mm_m_X10_isLetter, mm_m_X10_firstBadByte, mm_m_X10_thinkDaysOn, mm_m_X10_owedBehindWithWaker, mm_m_X10_owedBehindWithMilk, mm_m_X10_owedBehindWithout, mm_m_X10_owedBehindKeeping, mm_m_X10_owedBehindFalls, mm_m_X10_mindOwesAsTold, mm_m_X10_gainInMind, mm_m_X10_fillDrunkBehind, mm_m_X10_bagsGoAsTold, mm_m_X10_matchCell, mm_m_X10_mostWokenFrom, mm_m_X10_fillMostWoken, mm_m_X10_firstMatchOf, mm_m_X10_power, mm_m_X10_partOfFraction, mm_m_X10_nextSeed]
theorem mm_chk_5 : ∀ M ∈ mm_tab_5, mm_good M = true := List.forall_mem_cons.mpr ⟨mm_k_X10_digitsBehind, List.forall_mem_cons.mpr ⟨mm_k_X10_isLetter, List.forall_mem_cons.mpr ⟨mm_k_X10_firstBadByte, List.forall_mem_cons.mpr ⟨mm_k_X10_thinkDaysOn, List.forall_mem_cons.mpr ⟨mm_k_X10_owedBehindWithWaker, List.forall_mem_cons.mpr ⟨mm_k_X10_owedBehindWithMilk, List.forall_mem_cons.mpr ⟨mm_k_X10_owedBehindWithout, List.forall_mem_cons.mpr ⟨mm_k_X10_owedBehindKeeping, List.forall_mem_cons.mpr ⟨mm_k_X10_owedBehindFalls, List.forall_mem_cons.mpr ⟨mm_k_X10_mindOwesAsTold, List.forall_mem_cons.mpr ⟨mm_k_X10_gainInMind, List.forall_mem_cons.mpr ⟨mm_k_X10_fillDrunkBehind, List.forall_mem_cons.mpr ⟨mm_k_X10_bagsGoAsTold, List.forall_mem_cons.mpr ⟨mm_k_X10_matchCell, List.forall_mem_cons.mpr ⟨mm_k_X10_mostWokenFrom, List.forall_mem_cons.mpr ⟨mm_k_X10_fillMostWoken, List.forall_mem_cons.mpr ⟨mm_k_X10_firstMatchOf, List.forall_mem_cons.mpr ⟨mm_k_X10_power, List.forall_mem_cons.mpr ⟨mm_k_X10_partOfFraction, List.forall_mem_cons.mpr ⟨mm_k_X10_nextSeed, fun _ h => absurd h List.not_mem_nil⟩⟩⟩⟩⟩⟩⟩⟩⟩⟩⟩⟩⟩⟩⟩⟩⟩⟩⟩⟩
def mm_tab_6 : List mm_Me := [mm_m_X10_drawOf, mm_m_X11_isIn, mm_m_X11_least, mm_m_X11_lessBy, mm_m_X11_copies, mm_m_X11_of, mm_m_X11_isDrinker, mm_m_X11_isWaker, mm_m_X11_isWakerOrNone, mm_m_X11_has, mm_m_X11_bits, mm_m_X11_drinksBy, mm_m_X11_tiresBy, mm_m_X11_owesBy, mm_m_X11_isAwake, mm_m_X11_wakesUp, mm_m_X11_drinks, mm_m_X11_liesDown, mm_m_X11_day, mm_m_X11_daysOn]
theorem mm_chk_6 : ∀ M ∈ mm_tab_6, mm_good M = true := List.forall_mem_cons.mpr ⟨mm_k_X10_drawOf, List.forall_mem_cons.mpr ⟨mm_k_X11_isIn, List.forall_mem_cons.mpr ⟨mm_k_X11_least, List.forall_mem_cons.mpr ⟨mm_k_X11_lessBy, List.forall_mem_cons.mpr ⟨mm_k_X11_copies, List.forall_mem_cons.mpr ⟨mm_k_X11_of, List.forall_mem_cons.mpr ⟨mm_k_X11_isDrinker, List.forall_mem_cons.mpr ⟨mm_k_X11_isWaker, List.forall_mem_cons.mpr ⟨mm_k_X11_isWakerOrNone, List.forall_mem_cons.mpr ⟨mm_k_X11_has, List.forall_mem_cons.mpr ⟨mm_k_X11_bits, List.forall_mem_cons.mpr ⟨mm_k_X11_drinksBy, List.forall_mem_cons.mpr ⟨mm_k_X11_tiresBy, List.forall_mem_cons.mpr ⟨mm_k_X11_owesBy, List.forall_mem_cons.mpr ⟨mm_k_X11_isAwake, List.forall_mem_cons.mpr ⟨mm_k_X11_wakesUp, List.forall_mem_cons.mpr ⟨mm_k_X11_drinks, List.forall_mem_cons.mpr ⟨mm_k_X11_liesDown, List.forall_mem_cons.mpr ⟨mm_k_X11_day, List.forall_mem_cons.mpr ⟨mm_k_X11_daysOn, fun _ h => absurd h List.not_mem_nil⟩⟩⟩⟩⟩⟩⟩⟩⟩⟩⟩⟩⟩⟩⟩⟩⟩⟩⟩⟩
def mm_tab_7 : List mm_Me := [mm_m_X11_allOwed, mm_m_X11_allTired, mm_m_X11_here, mm_m_X11_readsNumber, mm_m_X11_readsStatement, mm_m_X11_adds, mm_m_X11_isDone, mm_m_X11_treaty, mm_m_X11_nextOf, mm_m_X11_drinker, mm_m_X11_manyOf, mm_m_X11_waker, mm_m_X11_comes, mm_m_X11_sets, mm_m_X11_wakes, mm_m_X11_tires, mm_m_X11_sleeps, mm_m_X11_bags, mm_m_X11_days, mm_m_X11_isLate]
theorem mm_chk_7 : ∀ M ∈ mm_tab_7, mm_good M = true := List.forall_mem_cons.mpr ⟨mm_k_X11_allOwed, List.forall_mem_cons.mpr ⟨mm_k_X11_allTired, List.forall_mem_cons.mpr ⟨mm_k_X11_here, List.forall_mem_cons.mpr ⟨mm_k_X11_readsNumber, List.forall_mem_cons.mpr ⟨mm_k_X11_readsStatement, List.forall_mem_cons.mpr ⟨mm_k_X11_adds, List.forall_mem_cons.mpr ⟨mm_k_X11_isDone, List.forall_mem_cons.mpr ⟨mm_k_X11_treaty, List.forall_mem_cons.mpr ⟨mm_k_X11_nextOf, List.forall_mem_cons.mpr ⟨mm_k_X11_drinker, List.forall_mem_cons.mpr ⟨mm_k_X11_manyOf, List.forall_mem_cons.mpr ⟨mm_k_X11_waker, List.forall_mem_cons.mpr ⟨mm_k_X11_comes, List.forall_mem_cons.mpr ⟨mm_k_X11_sets, List.forall_mem_cons.mpr ⟨mm_k_X11_wakes, List.forall_mem_cons.mpr ⟨mm_k_X11_tires, List.forall_mem_cons.mpr ⟨mm_k_X11_sleeps, List.forall_mem_cons.mpr ⟨mm_k_X11_bags, List.forall_mem_cons.mpr ⟨mm_k_X11_days, List.forall_mem_cons.mpr ⟨mm_k_X11_isLate, fun _ h => absurd h List.not_mem_nil⟩⟩⟩⟩⟩⟩⟩⟩⟩⟩⟩⟩⟩⟩⟩⟩⟩⟩⟩⟩
def mm_tab_8 : List mm_Me := [mm_m_X11_takes, mm_m_X11_owesThen, mm_m_X11_tiredThen, mm_m_X11_then, mm_m_X11_firstAsleep, mm_m_X11_out, mm_m_X11_owedNow, mm_m_X11_bestWaker, mm_m_X11_canWake, mm_m_X11_matches, mm_m_X11_wakerOf, mm_m_X11_match, mm_m_X11_milk, mm_m_X11_fewest, mm_m_X11_store, mm_m_X11_heaviest, mm_m_X11_rest, mm_m_X11_leastOf, mm_m_X11_isTold, mm_m_X11_whatIs]
theorem mm_chk_8 : ∀ M ∈ mm_tab_8, mm_good M = true := List.forall_mem_cons.mpr ⟨mm_k_X11_takes, List.forall_mem_cons.mpr ⟨mm_k_X11_owesThen, List.forall_mem_cons.mpr ⟨mm_k_X11_tiredThen, List.forall_mem_cons.mpr ⟨mm_k_X11_then, List.forall_mem_cons.mpr ⟨mm_k_X11_firstAsleep, List.forall_mem_cons.mpr ⟨mm_k_X11_out, List.forall_mem_cons.mpr ⟨mm_k_X11_owedNow, List.forall_mem_cons.mpr ⟨mm_k_X11_bestWaker, List.forall_mem_cons.mpr ⟨mm_k_X11_canWake, List.forall_mem_cons.mpr ⟨mm_k_X11_matches, List.forall_mem_cons.mpr ⟨mm_k_X11_wakerOf, List.forall_mem_cons.mpr ⟨mm_k_X11_match, List.forall_mem_cons.mpr ⟨mm_k_X11_milk, List.forall_mem_cons.mpr ⟨mm_k_X11_fewest, List.forall_mem_cons.mpr ⟨mm_k_X11_store, List.forall_mem_cons.mpr ⟨mm_k_X11_heaviest, List.forall_mem_cons.mpr ⟨mm_k_X11_rest, List.forall_mem_cons.mpr ⟨mm_k_X11_leastOf, List.forall_mem_cons.mpr ⟨mm_k_X11_isTold, List.forall_mem_cons.mpr ⟨mm_k_X11_whatIs, fun _ h => absurd h List.not_mem_nil⟩⟩⟩⟩⟩⟩⟩⟩⟩⟩⟩⟩⟩⟩⟩⟩⟩⟩⟩⟩
def mm_tab_9 : List mm_Me := [mm_m_X11_isShedSo, mm_m_X11_shed, mm_m_X11_hasBy, mm_m_X11_two, mm_m_X11_gcd, mm_m_X11_partOf, mm_m_X11_falls, mm_m_X11_mean, mm_m_X11_forged, mm_m_X11_judge, mm_m_X11_drawn, mm_m_X11_years, mm_m_X11_image, mm_m_X11_restore, mm_m_X11_count, mm_m_X11_thrown, mm_m_X11_isShelf, mm_m_X11_wrongRow, mm_m_X11_wrongKept, mm_m_X11_keep]
theorem mm_chk_9 : ∀ M ∈ mm_tab_9, mm_good M = true := List.forall_mem_cons.mpr ⟨mm_k_X11_isShedSo, List.forall_mem_cons.mpr ⟨mm_k_X11_shed, List.forall_mem_cons.mpr ⟨mm_k_X11_hasBy, List.forall_mem_cons.mpr ⟨mm_k_X11_two, List.forall_mem_cons.mpr ⟨mm_k_X11_gcd, List.forall_mem_cons.mpr ⟨mm_k_X11_partOf, List.forall_mem_cons.mpr ⟨mm_k_X11_falls, List.forall_mem_cons.mpr ⟨mm_k_X11_mean, List.forall_mem_cons.mpr ⟨mm_k_X11_forged, List.forall_mem_cons.mpr ⟨mm_k_X11_judge, List.forall_mem_cons.mpr ⟨mm_k_X11_drawn, List.forall_mem_cons.mpr ⟨mm_k_X11_years, List.forall_mem_cons.mpr ⟨mm_k_X11_image, List.forall_mem_cons.mpr ⟨mm_k_X11_restore, List.forall_mem_cons.mpr ⟨mm_k_X11_count, List.forall_mem_cons.mpr ⟨mm_k_X11_thrown, List.forall_mem_cons.mpr ⟨mm_k_X11_isShelf, List.forall_mem_cons.mpr ⟨mm_k_X11_wrongRow, List.forall_mem_cons.mpr ⟨mm_k_X11_wrongKept, List.forall_mem_cons.mpr ⟨mm_k_X11_keep, fun _ h => absurd h List.not_mem_nil⟩⟩⟩⟩⟩⟩⟩⟩⟩⟩⟩⟩⟩⟩⟩⟩⟩⟩⟩⟩
def mm_tab_10 : List mm_Me := [mm_m_X11_row, mm_m_X11_put, mm_m_X11_element, mm_m_X11_copy, mm_m_X11_costBy, mm_m_X11_cost, mm_m_X11_toss, mm_m_J6_bitCount_0f7a4, mm_m_J7_fill_53178]
theorem mm_chk_10 : ∀ M ∈ mm_tab_10, mm_good M = true := List.forall_mem_cons.mpr ⟨mm_k_X11_row, List.forall_mem_cons.mpr ⟨mm_k_X11_put, List.forall_mem_cons.mpr ⟨mm_k_X11_element, List.forall_mem_cons.mpr ⟨mm_k_X11_copy, List.forall_mem_cons.mpr ⟨mm_k_X11_costBy, List.forall_mem_cons.mpr ⟨mm_k_X11_cost, List.forall_mem_cons.mpr ⟨mm_k_X11_toss, List.forall_mem_cons.mpr ⟨mm_k_J6_bitCount_0f7a4, List.forall_mem_cons.mpr ⟨mm_k_J7_fill_53178, fun _ h => absurd h List.not_mem_nil⟩⟩⟩⟩⟩⟩⟩⟩⟩
theorem mm_chk : ∀ M ∈ mm_tab, mm_good M = true := by
  show ∀ M ∈ mm_tab_0 ++ (mm_tab_1 ++ (mm_tab_2 ++ (mm_tab_3 ++ (mm_tab_4 ++ (mm_tab_5 ++ (mm_tab_6 ++ (mm_tab_7 ++ (mm_tab_8 ++ (mm_tab_9 ++ (mm_tab_10)))))))))), mm_good M = true
  exact List.forall_mem_append.mpr ⟨mm_chk_0, List.forall_mem_append.mpr ⟨mm_chk_1, List.forall_mem_append.mpr ⟨mm_chk_2, List.forall_mem_append.mpr ⟨mm_chk_3, List.forall_mem_append.mpr ⟨mm_chk_4, List.forall_mem_append.mpr ⟨mm_chk_5, List.forall_mem_append.mpr ⟨mm_chk_6, List.forall_mem_append.mpr ⟨mm_chk_7, List.forall_mem_append.mpr ⟨mm_chk_8, List.forall_mem_append.mpr ⟨mm_chk_9, mm_chk_10⟩⟩⟩⟩⟩⟩⟩⟩⟩⟩
theorem mm_mwords : mm_w 379 (.static Lib.Math.min.name) = true ∧ mm_w 380 (.code Lib.Math.min.name Lib.Math.min.code 2 (some .int)) = true ∧ mm_w 58 (.initialized "java/lang/Math") = true ∧ mm_w 337 (.static Lib.Math.max.name) = true ∧ mm_w 338 (.code Lib.Math.max.name Lib.Math.max.code 2 (some .int)) = true := by decide +kernel
theorem mm_awords : mm_w 287 (.native arraycopyName) = true ∧ mm_w 286 (.static arraycopyName) = true ∧ mm_w 56 (.initialized "java/lang/System") = true := by decide +kernel
theorem mm_ws_1 : (u_ws RX1 TX1 14).all (fun w => decide (w ∈ lw_tbl) && mm_okW w) = true := by decide +kernel
theorem mm_ws_8 : (u_ws RX8 TX8 6).all (fun w => decide (w ∈ lw_tbl) && mm_okW w) = true := by decide +kernel
theorem mm_ws_10 : (u_ws RX10 TX10 8).all (fun w => decide (w ∈ lw_tbl) && mm_okW w) = true := by decide +kernel
theorem mm_ws_11 : (u_ws RX11 TX11 19).all (fun w => decide (w ∈ lw_tbl) && mm_okW w) = true := by decide +kernel
