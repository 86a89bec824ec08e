theorem ok_MV_init : mv_okY y_MV_init = true := by decide +kernel
theorem ok_Land_init : mv_okY y_Land_init = true := by decide +kernel
theorem ok_Reader_init : mv_okY y_Reader_init = true := by decide +kernel
theorem ok_Day_init : mv_okY y_Day_init = true := by decide +kernel
theorem ok_Past_init : mv_okY y_Past_init = true := by decide +kernel
theorem ok_Planner_init : mv_okY y_Planner_init = true := by decide +kernel
theorem ok_Briber_init : mv_okY y_Briber_init = true := by decide +kernel
theorem ok_Sleepers_init : mv_okY y_Sleepers_init = true := by decide +kernel
theorem ok_Likings_init : mv_okY y_Likings_init = true := by decide +kernel
theorem ok_Rater_init : mv_okY y_Rater_init = true := by decide +kernel
theorem ok_MV_type : mv_okY y_MV_type = true := by decide +kernel
theorem ok_MV_clear : mv_okY y_MV_clear = true := by decide +kernel
theorem ok_MV_kingdom : mv_okY y_MV_kingdom = true := by decide +kernel
theorem ok_Reader_readsAll : mv_okY y_Reader_readsAll = true := by decide +kernel
theorem ok_Land_empties : mv_okY y_Land_empties = true := by decide +kernel
theorem ok_Reader_isDigit : mv_okY y_Reader_isDigit = true := by decide +kernel
theorem ok_Reader_takes : mv_okY y_Reader_takes = true := by decide +kernel
theorem ok_Reader_numberOf : mv_okY y_Reader_numberOf = true := by decide +kernel
theorem ok_Reader_takesNumber : mv_okY y_Reader_takesNumber = true := by decide +kernel
theorem ok_Reader_numbersDue : mv_okY y_Reader_numbersDue = true := by decide +kernel
theorem ok_Reader_leastDue : mv_okY y_Reader_leastDue = true := by decide +kernel
theorem ok_Reader_greatestDue : mv_okY y_Reader_greatestDue = true := by decide +kernel
theorem ok_Reader_tellsOfMonkey : mv_okY y_Reader_tellsOfMonkey = true := by decide +kernel
theorem ok_Reader_tellsOfOrgan : mv_okY y_Reader_tellsOfOrgan = true := by decide +kernel
theorem ok_Reader_endsItem : mv_okY y_Reader_endsItem = true := by decide +kernel
theorem ok_Reader_beginsItem : mv_okY y_Reader_beginsItem = true := by decide +kernel
theorem ok_Reader_mayBegin : mv_okY y_Reader_mayBegin = true := by decide +kernel
theorem ok_Land_becomes : mv_okY y_Land_becomes = true := by decide +kernel
theorem ok_Day_starts : mv_okY y_Day_starts = true := by decide +kernel
theorem ok_JArr_fill : mv_okY y_JArr_fill = true := by decide +kernel
theorem ok_Past_losesAll : mv_okY y_Past_losesAll = true := by decide +kernel
theorem ok_MV_monkey : mv_okY y_MV_monkey = true := by decide +kernel
theorem ok_Land_hasMonkey : mv_okY y_Land_hasMonkey = true := by decide +kernel
theorem ok_Day_voteOf : mv_okY y_Day_voteOf = true := by decide +kernel
theorem ok_JInt_compare : mv_okY y_JInt_compare = true := by decide +kernel
theorem ok_MV_like : mv_okY y_MV_like = true := by decide +kernel
theorem ok_Land_hasTune : mv_okY y_Land_hasTune = true := by decide +kernel
theorem ok_MV_organ : mv_okY y_MV_organ = true := by decide +kernel
theorem ok_Land_hasOrgan : mv_okY y_Land_hasOrgan = true := by decide +kernel
theorem ok_MV_now : mv_okY y_MV_now = true := by decide +kernel
theorem ok_Day_votesOf : mv_okY y_Day_votesOf = true := by decide +kernel
theorem ok_Day_carries : mv_okY y_Day_carries = true := by decide +kernel
theorem ok_MV_plays : mv_okY y_MV_plays = true := by decide +kernel
theorem ok_Past_remembers : mv_okY y_Past_remembers = true := by decide +kernel
theorem ok_Day_becomes : mv_okY y_Day_becomes = true := by decide +kernel
theorem ok_Day_sounds : mv_okY y_Day_sounds = true := by decide +kernel
theorem ok_MV_moves : mv_okY y_MV_moves = true := by decide +kernel
theorem ok_Day_goesOn : mv_okY y_Day_goesOn = true := by decide +kernel
theorem ok_Day_goesAhead : mv_okY y_Day_goesAhead = true := by decide +kernel
theorem ok_MV_mends : mv_okY y_MV_mends = true := by decide +kernel
theorem ok_MV_gives : mv_okY y_MV_gives = true := by decide +kernel
theorem ok_MV_weather : mv_okY y_MV_weather = true := by decide +kernel
theorem ok_MV_poll : mv_okY y_MV_poll = true := by decide +kernel
theorem ok_Day_polls : mv_okY y_Day_polls = true := by decide +kernel
theorem ok_MV_undo : mv_okY y_MV_undo = true := by decide +kernel
theorem ok_Past_returnsTo : mv_okY y_Past_returnsTo = true := by decide +kernel
theorem ok_MV_plan : mv_okY y_MV_plan = true := by decide +kernel
theorem ok_Planner_fewestTunes : mv_okY y_Planner_fewestTunes = true := by decide +kernel
theorem ok_Planner_carriesBehind : mv_okY y_Planner_carriesBehind = true := by decide +kernel
theorem ok_MV_round : mv_okY y_MV_round = true := by decide +kernel
theorem ok_Planner_timesOnRound : mv_okY y_Planner_timesOnRound = true := by decide +kernel
theorem ok_MV_bribes : mv_okY y_MV_bribes = true := by decide +kernel
theorem ok_Briber_fewestNuts : mv_okY y_Briber_fewestNuts = true := by decide +kernel
theorem ok_Briber_bestVote : mv_okY y_Briber_bestVote = true := by decide +kernel
theorem ok_Briber_nutsBy : mv_okY y_Briber_nutsBy = true := by decide +kernel
theorem ok_Briber_price : mv_okY y_Briber_price = true := by decide +kernel
theorem ok_Briber_sharesOut : mv_okY y_Briber_sharesOut = true := by decide +kernel
theorem ok_MV_odds : mv_okY y_MV_odds = true := by decide +kernel
theorem ok_Sleepers_weighs : mv_okY y_Sleepers_weighs = true := by decide +kernel
theorem ok_Sleepers_waysFrom : mv_okY y_Sleepers_waysFrom = true := by decide +kernel
theorem ok_Sleepers_commonDivisor : mv_okY y_Sleepers_commonDivisor = true := by decide +kernel
theorem ok_MV_knows : mv_okY y_MV_knows = true := by decide +kernel
theorem ok_Likings_learns : mv_okY y_Likings_learns = true := by decide +kernel
theorem ok_MV_forget : mv_okY y_MV_forget = true := by decide +kernel
theorem ok_MV_can : mv_okY y_MV_can = true := by decide +kernel
theorem ok_Likings_surveys : mv_okY y_Likings_surveys = true := by decide +kernel
theorem ok_Likings_spreads : mv_okY y_Likings_spreads = true := by decide +kernel
theorem ok_Likings_isAsKnown : mv_okY y_Likings_isAsKnown = true := by decide +kernel
theorem ok_Likings_takesIn : mv_okY y_Likings_takesIn = true := by decide +kernel
theorem ok_MV_next : mv_okY y_MV_next = true := by decide +kernel
theorem ok_Likings_bestToTry : mv_okY y_Likings_bestToTry = true := by decide +kernel
theorem ok_Likings_greatestPart : mv_okY y_Likings_greatestPart = true := by decide +kernel
theorem ok_MV_rate : mv_okY y_MV_rate = true := by decide +kernel
theorem ok_Rater_ratesAs : mv_okY y_Rater_ratesAs = true := by decide +kernel
theorem ok_Rater_cap : mv_okY y_Rater_cap = true := by decide +kernel
theorem ok_Rater_ape : mv_okY y_Rater_ape = true := by decide +kernel
theorem ok_Rater_flea : mv_okY y_Rater_flea = true := by decide +kernel
theorem ok_Rater_jacket : mv_okY y_Rater_jacket = true := by decide +kernel
theorem ok_Rater_convention : mv_okY y_Rater_convention = true := by decide +kernel
theorem ok_Rater_heart : mv_okY y_Rater_heart = true := by decide +kernel
theorem ok_MV_keep : mv_okY y_MV_keep = true := by decide +kernel
theorem ok_MV_back : mv_okY y_MV_back = true := by decide +kernel
theorem ok_MV_count : mv_okY y_MV_count = true := by decide +kernel
theorem ok_MV_trace : mv_okY y_MV_trace = true := by decide +kernel
theorem ok_Mod_init : mv_okY y_Mod_init = true := by decide +kernel
theorem ok_Mod_type : mv_okY y_Mod_type = true := by decide +kernel
theorem ok_Mod_in : mv_okY y_Mod_in = true := by decide +kernel
theorem ok_Mod_clear : mv_okY y_Mod_clear = true := by decide +kernel
theorem ok_Mod_kingdom : mv_okY y_Mod_kingdom = true := by decide +kernel
theorem ok_Mod_reads : mv_okY y_Mod_reads = true := by decide +kernel
theorem ok_Mod_letterAt : mv_okY y_Mod_letterAt = true := by decide +kernel
theorem ok_Mod_isFigure : mv_okY y_Mod_isFigure = true := by decide +kernel
theorem ok_Mod_readItem : mv_okY y_Mod_readItem = true := by decide +kernel
theorem ok_Mod_mayBegin : mv_okY y_Mod_mayBegin = true := by decide +kernel
theorem ok_Mod_readBody : mv_okY y_Mod_readBody = true := by decide +kernel
theorem ok_Mod_takesNumber : mv_okY y_Mod_takesNumber = true := by decide +kernel
theorem ok_Mod_readMonkey : mv_okY y_Mod_readMonkey = true := by decide +kernel
theorem ok_Mod_streetsSaid : mv_okY y_Mod_streetsSaid = true := by decide +kernel
theorem ok_Mod_tunesSaid : mv_okY y_Mod_tunesSaid = true := by decide +kernel
theorem ok_Mod_settles : mv_okY y_Mod_settles = true := by decide +kernel
theorem ok_Mod_monkey : mv_okY y_Mod_monkey = true := by decide +kernel
theorem ok_Mod_isMonkey : mv_okY y_Mod_isMonkey = true := by decide +kernel
theorem ok_Mod_asItIs : mv_okY y_Mod_asItIs = true := by decide +kernel
theorem ok_Mod_copy : mv_okY y_Mod_copy = true := by decide +kernel
theorem ok_Mod_voteOf : mv_okY y_Mod_voteOf = true := by decide +kernel
theorem ok_Mod_sign : mv_okY y_Mod_sign = true := by decide +kernel
theorem ok_Mod_like : mv_okY y_Mod_like = true := by decide +kernel
theorem ok_Mod_isTune : mv_okY y_Mod_isTune = true := by decide +kernel
theorem ok_Mod_organ : mv_okY y_Mod_organ = true := by decide +kernel
theorem ok_Mod_isOrgan : mv_okY y_Mod_isOrgan = true := by decide +kernel
theorem ok_Mod_now : mv_okY y_Mod_now = true := by decide +kernel
theorem ok_Mod_votes : mv_okY y_Mod_votes = true := by decide +kernel
theorem ok_Mod_carries : mv_okY y_Mod_carries = true := by decide +kernel
theorem ok_Mod_plays : mv_okY y_Mod_plays = true := by decide +kernel
theorem ok_Mod_remembers : mv_okY y_Mod_remembers = true := by decide +kernel
theorem ok_Mod_played : mv_okY y_Mod_played = true := by decide +kernel
theorem ok_Mod_heardBy : mv_okY y_Mod_heardBy = true := by decide +kernel
theorem ok_Mod_moves : mv_okY y_Mod_moves = true := by decide +kernel
theorem ok_Mod_mends : mv_okY y_Mod_mends = true := by decide +kernel
theorem ok_Mod_gives : mv_okY y_Mod_gives = true := by decide +kernel
theorem ok_Mod_weather : mv_okY y_Mod_weather = true := by decide +kernel
theorem ok_Mod_poll : mv_okY y_Mod_poll = true := by decide +kernel
theorem ok_Mod_undo : mv_okY y_Mod_undo = true := by decide +kernel
theorem ok_Mod_plan : mv_okY y_Mod_plan = true := by decide +kernel
theorem ok_Mod_twelves : mv_okY y_Mod_twelves = true := by decide +kernel
theorem ok_Mod_isRow : mv_okY y_Mod_isRow = true := by decide +kernel
theorem ok_Mod_round : mv_okY y_Mod_round = true := by decide +kernel
theorem ok_Mod_bribes : mv_okY y_Mod_bribes = true := by decide +kernel
theorem ok_Mod_threes : mv_okY y_Mod_threes = true := by decide +kernel
theorem ok_Mod_waysBy : mv_okY y_Mod_waysBy = true := by decide +kernel
theorem ok_Mod_needs : mv_okY y_Mod_needs = true := by decide +kernel
theorem ok_Mod_odds : mv_okY y_Mod_odds = true := by decide +kernel
theorem ok_Mod_has : mv_okY y_Mod_has = true := by decide +kernel
theorem ok_Mod_lowest : mv_okY y_Mod_lowest = true := by decide +kernel
theorem ok_Mod_knows : mv_okY y_Mod_knows = true := by decide +kernel
theorem ok_Mod_forget : mv_okY y_Mod_forget = true := by decide +kernel
theorem ok_Mod_can : mv_okY y_Mod_can = true := by decide +kernel
theorem ok_Mod_sevens : mv_okY y_Mod_sevens = true := by decide +kernel
theorem ok_Mod_isSo : mv_okY y_Mod_isSo = true := by decide +kernel
theorem ok_Mod_likeIn : mv_okY y_Mod_likeIn = true := by decide +kernel
theorem ok_Mod_next : mv_okY y_Mod_next = true := by decide +kernel
theorem ok_Mod_greatestPart : mv_okY y_Mod_greatestPart = true := by decide +kernel
theorem ok_Mod_rate : mv_okY y_Mod_rate = true := by decide +kernel
theorem ok_Mod_keep : mv_okY y_Mod_keep = true := by decide +kernel
theorem ok_Mod_back : mv_okY y_Mod_back = true := by decide +kernel
theorem ok_Mod_count : mv_okY y_Mod_count = true := by decide +kernel
theorem ok_Mod_trace : mv_okY y_Mod_trace = true := by decide +kernel
theorem ok_Law_law : mv_okY y_Law_law = true := by decide +kernel
theorem mv_all_ok : ∀ y ∈ mv_mtl, mv_dec y.1.2.1 y.2.2 = true ∧ mv_okY y = true := List.forall_mem_cons.mpr ⟨⟨dk_MV_init, ok_MV_init⟩, List.forall_mem_cons.mpr ⟨⟨dk_Land_init, ok_Land_init⟩, List.forall_mem_cons.mpr ⟨⟨dk_Reader_init, ok_Reader_init⟩, List.forall_mem_cons.mpr ⟨⟨dk_Day_init, ok_Day_init⟩, List.forall_mem_cons.mpr ⟨⟨dk_Past_init, ok_Past_init⟩, List.forall_mem_cons.mpr ⟨⟨dk_Planner_init, ok_Planner_init⟩, List.forall_mem_cons.mpr ⟨⟨dk_Briber_init, ok_Briber_init⟩, List.forall_mem_cons.mpr ⟨⟨dk_Sleepers_init, ok_Sleepers_init⟩, List.forall_mem_cons.mpr ⟨⟨dk_Likings_init, ok_Likings_init⟩, List.forall_mem_cons.mpr ⟨⟨dk_Rater_init, ok_Rater_init⟩, List.forall_mem_cons.mpr ⟨⟨dk_MV_type, ok_MV_type⟩, List.forall_mem_cons.mpr ⟨⟨dk_MV_clear, ok_MV_clear⟩, List.forall_mem_cons.mpr ⟨⟨dk_MV_kingdom, ok_MV_kingdom⟩, List.forall_mem_cons.mpr ⟨⟨dk_Reader_readsAll, ok_Reader_readsAll⟩, List.forall_mem_cons.mpr ⟨⟨dk_Land_empties, ok_Land_empties⟩, List.forall_mem_cons.mpr ⟨⟨dk_Reader_isDigit, ok_Reader_isDigit⟩, List.forall_mem_cons.mpr ⟨⟨dk_Reader_takes, ok_Reader_takes⟩, List.forall_mem_cons.mpr ⟨⟨dk_Reader_numberOf, ok_Reader_numberOf⟩, List.forall_mem_cons.mpr ⟨⟨dk_Reader_takesNumber, ok_Reader_takesNumber⟩, List.forall_mem_cons.mpr ⟨⟨dk_Reader_numbersDue, ok_Reader_numbersDue⟩, List.forall_mem_cons.mpr ⟨⟨dk_Reader_leastDue, ok_Reader_leastDue⟩, List.forall_mem_cons.mpr ⟨⟨dk_Reader_greatestDue, ok_Reader_greatestDue⟩, List.forall_mem_cons.mpr ⟨⟨dk_Reader_tellsOfMonkey, ok_Reader_tellsOfMonkey⟩, List.forall_mem_cons.mpr ⟨⟨dk_Reader_tellsOfOrgan, ok_Reader_tellsOfOrgan⟩, List.forall_mem_cons.mpr ⟨⟨dk_Reader_endsItem, ok_Reader_endsItem⟩, List.forall_mem_cons.mpr ⟨⟨dk_Reader_beginsItem, ok_Reader_beginsItem⟩, List.forall_mem_cons.mpr ⟨⟨dk_Reader_mayBegin, ok_Reader_mayBegin⟩, List.forall_mem_cons.mpr ⟨⟨dk_Land_becomes, ok_Land_becomes⟩, List.forall_mem_cons.mpr ⟨⟨dk_Day_starts, ok_Day_starts⟩, List.forall_mem_cons.mpr ⟨⟨dk_JArr_fill, ok_JArr_fill⟩, List.forall_mem_cons.mpr ⟨⟨dk_Past_losesAll, ok_Past_losesAll⟩, List.forall_mem_cons.mpr ⟨⟨dk_MV_monkey, ok_MV_monkey⟩, List.forall_mem_cons.mpr ⟨⟨dk_Land_hasMonkey, ok_Land_hasMonkey⟩, List.forall_mem_cons.mpr ⟨⟨dk_Day_voteOf, ok_Day_voteOf⟩, List.forall_mem_cons.mpr ⟨⟨dk_JInt_compare, ok_JInt_compare⟩, List.forall_mem_cons.mpr ⟨⟨dk_MV_like, ok_MV_like⟩, List.forall_mem_cons.mpr ⟨⟨dk_Land_hasTune, ok_Land_hasTune⟩, List.forall_mem_cons.mpr ⟨⟨dk_MV_organ, ok_MV_organ⟩, List.forall_mem_cons.mpr ⟨⟨dk_Land_hasOrgan, ok_Land_hasOrgan⟩, List.forall_mem_cons.mpr ⟨⟨dk_MV_now, ok_MV_now⟩, List.forall_mem_cons.mpr ⟨⟨dk_Day_votesOf, ok_Day_votesOf⟩, List.forall_mem_cons.mpr ⟨⟨dk_Day_carries, ok_Day_carries⟩, List.forall_mem_cons.mpr ⟨⟨dk_MV_plays, ok_MV_plays⟩, List.forall_mem_cons.mpr ⟨⟨dk_Past_remembers, ok_Past_remembers⟩, List.forall_mem_cons.mpr ⟨⟨dk_Day_becomes, ok_Day_becomes⟩, List.forall_mem_cons.mpr ⟨⟨dk_Day_sounds, ok_Day_sounds⟩, List.forall_mem_cons.mpr ⟨⟨dk_MV_moves, ok_MV_moves⟩, List.forall_mem_cons.mpr ⟨⟨dk_Day_goesOn, ok_Day_goesOn⟩, List.forall_mem_cons.mpr ⟨⟨dk_Day_goesAhead, ok_Day_goesAhead⟩, List.forall_mem_cons.mpr ⟨⟨dk_MV_mends, ok_MV_mends⟩, List.forall_mem_cons.mpr ⟨⟨dk_MV_gives, ok_MV_gives⟩, List.forall_mem_cons.mpr ⟨⟨dk_MV_weather, ok_MV_weather⟩, List.forall_mem_cons.mpr ⟨⟨dk_MV_poll, ok_MV_poll⟩, List.forall_mem_cons.mpr ⟨⟨dk_Day_polls, ok_Day_polls⟩, List.forall_mem_cons.mpr ⟨⟨dk_MV_undo, ok_MV_undo⟩, List.forall_mem_cons.mpr ⟨⟨dk_Past_returnsTo, ok_Past_returnsTo⟩, List.forall_mem_cons.mpr ⟨⟨dk_MV_plan, ok_MV_plan⟩, List.forall_mem_cons.mpr ⟨⟨dk_Planner_fewestTunes, ok_Planner_fewestTunes⟩, List.forall_mem_cons.mpr ⟨⟨dk_Planner_carriesBehind, ok_Planner_carriesBehind⟩, List.forall_mem_cons.mpr ⟨⟨dk_MV_round, ok_MV_round⟩, List.forall_mem_cons.mpr ⟨⟨dk_Planner_timesOnRound, ok_Planner_timesOnRound⟩, List.forall_mem_cons.mpr ⟨⟨dk_MV_bribes, ok_MV_bribes⟩, List.forall_mem_cons.mpr ⟨⟨dk_Briber_fewestNuts, ok_Briber_fewestNuts⟩, List.forall_mem_cons.mpr ⟨⟨dk_Briber_bestVote, ok_Briber_bestVote⟩, List.forall_mem_cons.mpr ⟨⟨dk_Briber_nutsBy, ok_Briber_nutsBy⟩, List.forall_mem_cons.mpr ⟨⟨dk_Briber_price, ok_Briber_price⟩, List.forall_mem_cons.mpr ⟨⟨dk_Briber_sharesOut, ok_Briber_sharesOut⟩, List.forall_mem_cons.mpr ⟨⟨dk_MV_odds, ok_MV_odds⟩, List.forall_mem_cons.mpr ⟨⟨dk_Sleepers_weighs, ok_Sleepers_weighs⟩, List.forall_mem_cons.mpr ⟨⟨dk_Sleepers_waysFrom, ok_Sleepers_waysFrom⟩, List.forall_mem_cons.mpr ⟨⟨dk_Sleepers_commonDivisor, ok_Sleepers_commonDivisor⟩, List.forall_mem_cons.mpr ⟨⟨dk_MV_knows, ok_MV_knows⟩, List.forall_mem_cons.mpr ⟨⟨dk_Likings_learns, ok_Likings_learns⟩, List.forall_mem_cons.mpr ⟨⟨dk_MV_forget, ok_MV_forget⟩, List.forall_mem_cons.mpr ⟨⟨dk_MV_can, ok_MV_can⟩, List.forall_mem_cons.mpr ⟨⟨dk_Likings_surveys, ok_Likings_surveys⟩, List.forall_mem_cons.mpr ⟨⟨dk_Likings_spreads, ok_Likings_spreads⟩, List.forall_mem_cons.mpr ⟨⟨dk_Likings_isAsKnown, ok_Likings_isAsKnown⟩, List.forall_mem_cons.mpr ⟨⟨dk_Likings_takesIn, ok_Likings_takesIn⟩, List.forall_mem_cons.mpr ⟨⟨dk_MV_next, ok_MV_next⟩, List.forall_mem_cons.mpr ⟨⟨dk_Likings_bestToTry, ok_Likings_bestToTry⟩, List.forall_mem_cons.mpr ⟨⟨dk_Likings_greatestPart, ok_Likings_greatestPart⟩, List.forall_mem_cons.mpr ⟨⟨dk_MV_rate, ok_MV_rate⟩, List.forall_mem_cons.mpr ⟨⟨dk_Rater_ratesAs, ok_Rater_ratesAs⟩, List.forall_mem_cons.mpr ⟨⟨dk_Rater_cap, ok_Rater_cap⟩, List.forall_mem_cons.mpr ⟨⟨dk_Rater_ape, ok_Rater_ape⟩, List.forall_mem_cons.mpr ⟨⟨dk_Rater_flea, ok_Rater_flea⟩, List.forall_mem_cons.mpr ⟨⟨dk_Rater_jacket, ok_Rater_jacket⟩, List.forall_mem_cons.mpr ⟨⟨dk_Rater_convention, ok_Rater_convention⟩, List.forall_mem_cons.mpr ⟨⟨dk_Rater_heart, ok_Rater_heart⟩, List.forall_mem_cons.mpr ⟨⟨dk_MV_keep, ok_MV_keep⟩, List.forall_mem_cons.mpr ⟨⟨dk_MV_back, ok_MV_back⟩, List.forall_mem_cons.mpr ⟨⟨dk_MV_count, ok_MV_count⟩, List.forall_mem_cons.mpr ⟨⟨dk_MV_trace, ok_MV_trace⟩, List.forall_mem_cons.mpr ⟨⟨dk_Mod_init, ok_Mod_init⟩, List.forall_mem_cons.mpr ⟨⟨dk_Mod_type, ok_Mod_type⟩, List.forall_mem_cons.mpr ⟨⟨dk_Mod_in, ok_Mod_in⟩, List.forall_mem_cons.mpr ⟨⟨dk_Mod_clear, ok_Mod_clear⟩, List.forall_mem_cons.mpr ⟨⟨dk_Mod_kingdom, ok_Mod_kingdom⟩, List.forall_mem_cons.mpr ⟨⟨dk_Mod_reads, ok_Mod_reads⟩, List.forall_mem_cons.mpr ⟨⟨dk_Mod_letterAt, ok_Mod_letterAt⟩, List.forall_mem_cons.mpr ⟨⟨dk_Mod_isFigure, ok_Mod_isFigure⟩, List.forall_mem_cons.mpr ⟨⟨dk_Mod_readItem, ok_Mod_readItem⟩, List.forall_mem_cons.mpr ⟨⟨dk_Mod_mayBegin, ok_Mod_mayBegin⟩, List.forall_mem_cons.mpr ⟨⟨dk_Mod_readBody, ok_Mod_readBody⟩, List.forall_mem_cons.mpr ⟨⟨dk_Mod_takesNumber, ok_Mod_takesNumber⟩, List.forall_mem_cons.mpr ⟨⟨dk_Mod_readMonkey, ok_Mod_readMonkey⟩, List.forall_mem_cons.mpr ⟨⟨dk_Mod_streetsSaid, ok_Mod_streetsSaid⟩, List.forall_mem_cons.mpr ⟨⟨dk_Mod_tunesSaid, ok_Mod_tunesSaid⟩, List.forall_mem_cons.mpr ⟨⟨dk_Mod_settles, ok_Mod_settles⟩, List.forall_mem_cons.mpr ⟨⟨dk_Mod_monkey, ok_Mod_monkey⟩, List.forall_mem_cons.mpr ⟨⟨dk_Mod_isMonkey, ok_Mod_isMonkey⟩, List.forall_mem_cons.mpr ⟨⟨dk_Mod_asItIs, ok_Mod_asItIs⟩, List.forall_mem_cons.mpr ⟨⟨dk_Mod_copy, ok_Mod_copy⟩, List.forall_mem_cons.mpr ⟨⟨dk_Mod_voteOf, ok_Mod_voteOf⟩, List.forall_mem_cons.mpr ⟨⟨dk_Mod_sign, ok_Mod_sign⟩, List.forall_mem_cons.mpr ⟨⟨dk_Mod_like, ok_Mod_like⟩, List.forall_mem_cons.mpr ⟨⟨dk_Mod_isTune, ok_Mod_isTune⟩, List.forall_mem_cons.mpr ⟨⟨dk_Mod_organ, ok_Mod_organ⟩, List.forall_mem_cons.mpr ⟨⟨dk_Mod_isOrgan, ok_Mod_isOrgan⟩, List.forall_mem_cons.mpr ⟨⟨dk_Mod_now, ok_Mod_now⟩, List.forall_mem_cons.mpr ⟨⟨dk_Mod_votes, ok_Mod_votes⟩, List.forall_mem_cons.mpr ⟨⟨dk_Mod_carries, ok_Mod_carries⟩, List.forall_mem_cons.mpr ⟨⟨dk_Mod_plays, ok_Mod_plays⟩, List.forall_mem_cons.mpr ⟨⟨dk_Mod_remembers, ok_Mod_remembers⟩, List.forall_mem_cons.mpr ⟨⟨dk_Mod_played, ok_Mod_played⟩, List.forall_mem_cons.mpr ⟨⟨dk_Mod_heardBy, ok_Mod_heardBy⟩, List.forall_mem_cons.mpr ⟨⟨dk_Mod_moves, ok_Mod_moves⟩, List.forall_mem_cons.mpr ⟨⟨dk_Mod_mends, ok_Mod_mends⟩, List.forall_mem_cons.mpr ⟨⟨dk_Mod_gives, ok_Mod_gives⟩, List.forall_mem_cons.mpr ⟨⟨dk_Mod_weather, ok_Mod_weather⟩, List.forall_mem_cons.mpr ⟨⟨dk_Mod_poll, ok_Mod_poll⟩, List.forall_mem_cons.mpr ⟨⟨dk_Mod_undo, ok_Mod_undo⟩, List.forall_mem_cons.mpr ⟨⟨dk_Mod_plan, ok_Mod_plan⟩, List.forall_mem_cons.mpr ⟨⟨dk_Mod_twelves, ok_Mod_twelves⟩, List.forall_mem_cons.mpr ⟨⟨dk_Mod_isRow, ok_Mod_isRow⟩, List.forall_mem_cons.mpr ⟨⟨dk_Mod_round, ok_Mod_round⟩, List.forall_mem_cons.mpr ⟨⟨dk_Mod_bribes, ok_Mod_bribes⟩, List.forall_mem_cons.mpr ⟨⟨dk_Mod_threes, ok_Mod_threes⟩, List.forall_mem_cons.mpr ⟨⟨dk_Mod_waysBy, ok_Mod_waysBy⟩, List.forall_mem_cons.mpr ⟨⟨dk_Mod_needs, ok_Mod_needs⟩, List.forall_mem_cons.mpr ⟨⟨dk_Mod_odds, ok_Mod_odds⟩, List.forall_mem_cons.mpr ⟨⟨dk_Mod_has, ok_Mod_has⟩, List.forall_mem_cons.mpr ⟨⟨dk_Mod_lowest, ok_Mod_lowest⟩, List.forall_mem_cons.mpr ⟨⟨dk_Mod_knows, ok_Mod_knows⟩, List.forall_mem_cons.mpr ⟨⟨dk_Mod_forget, ok_Mod_forget⟩, List.forall_mem_cons.mpr ⟨⟨dk_Mod_can, ok_Mod_can⟩, List.forall_mem_cons.mpr ⟨⟨dk_Mod_sevens, ok_Mod_sevens⟩, List.forall_mem_cons.mpr ⟨⟨dk_Mod_isSo, ok_Mod_isSo⟩, List.forall_mem_cons.mpr ⟨⟨dk_Mod_likeIn, ok_Mod_likeIn⟩, List.forall_mem_cons.mpr ⟨⟨dk_Mod_next, ok_Mod_next⟩, List.forall_mem_cons.mpr ⟨⟨dk_Mod_greatestPart, ok_Mod_greatestPart⟩, List.forall_mem_cons.mpr ⟨⟨dk_Mod_rate, ok_Mod_rate⟩, List.forall_mem_cons.mpr ⟨⟨dk_Mod_keep, ok_Mod_keep⟩, List.forall_mem_cons.mpr ⟨⟨dk_Mod_back, ok_Mod_back⟩, List.forall_mem_cons.mpr ⟨⟨dk_Mod_count, ok_Mod_count⟩, List.forall_mem_cons.mpr ⟨⟨dk_Mod_trace, ok_Mod_trace⟩, List.forall_mem_cons.mpr ⟨⟨dk_Law_law, ok_Law_law⟩, fun _ h => absurd h List.not_mem_nil⟩⟩⟩⟩⟩⟩⟩⟩⟩⟩⟩⟩⟩⟩⟩⟩⟩⟩⟩⟩⟩⟩⟩⟩⟩⟩⟩⟩⟩⟩⟩⟩⟩⟩⟩⟩⟩⟩⟩⟩⟩⟩⟩⟩⟩⟩⟩⟩⟩⟩⟩⟩⟩⟩⟩⟩⟩⟩⟩⟩⟩⟩⟩⟩⟩⟩⟩⟩⟩⟩⟩⟩⟩⟩⟩⟩⟩⟩⟩⟩⟩⟩⟩⟩⟩⟩⟩⟩⟩⟩⟩⟩⟩⟩⟩⟩⟩⟩⟩⟩⟩⟩⟩⟩⟩⟩⟩⟩⟩⟩⟩⟩⟩⟩⟩⟩⟩⟩⟩⟩⟩⟩⟩⟩⟩⟩⟩⟩⟩⟩⟩⟩⟩⟩⟩⟩⟩⟩⟩⟩⟩⟩⟩⟩⟩⟩⟩⟩⟩⟩⟩⟩⟩⟩⟩⟩⟩⟩
theorem mv_cw_mem {l : List mv_Y} {ps : List Nat} (h : l.map (fun y => Jvm.Cond.code y.1.1 y.1.2.1 y.1.2.2.1 y.1.2.2.2) = ps.filterMap (fun i => lw_tbl[i]?)) : ∀ y ∈ l, Jvm.Cond.code y.1.1 y.1.2.1 y.1.2.2.1 y.1.2.2.2 ∈ lw_tbl := by
  intro y hy
  have h1 : Jvm.Cond.code y.1.1 y.1.2.1 y.1.2.2.1 y.1.2.2.2 ∈ l.map (fun y => Jvm.Cond.code y.1.1 y.1.2.1 y.1.2.2.1 y.1.2.2.2) := List.mem_map_of_mem hy
  rw [h] at h1
  obtain ⟨i, -, hi⟩ := List.mem_filterMap.mp h1
  exact List.mem_of_getElem? hi
def mv_front : List mv_Y := [y_MV_init, y_Land_init, y_Reader_init, y_Day_init, y_Past_init, y_Planner_init, y_Briber_init, y_Sleepers_init, y_Likings_init, y_Rater_init, y_MV_type, y_MV_clear, y_MV_kingdom, y_Reader_readsAll, y_Land_empties, y_Reader_isDigit, y_Reader_takes, y_Reader_numberOf, y_Reader_takesNumber, y_Reader_numbersDue] ++ [y_Reader_leastDue, y_Reader_greatestDue, y_Reader_tellsOfMonkey, y_Reader_tellsOfOrgan, y_Reader_endsItem, y_Reader_beginsItem, y_Reader_mayBegin, y_Land_becomes, y_Day_starts, y_JArr_fill, y_Past_losesAll, y_MV_monkey, y_Land_hasMonkey, y_Day_voteOf, y_JInt_compare, y_MV_like, y_Land_hasTune, y_MV_organ, y_Land_hasOrgan, y_MV_now] ++ [y_Day_votesOf, y_Day_carries, y_MV_plays, y_Past_remembers, y_Day_becomes, y_Day_sounds, y_MV_moves, y_Day_goesOn, y_Day_goesAhead, y_MV_mends, y_MV_gives, y_MV_weather, y_MV_poll, y_Day_polls, y_MV_undo, y_Past_returnsTo, y_MV_plan, y_Planner_fewestTunes, y_Planner_carriesBehind, y_MV_round] ++ [y_Planner_timesOnRound, y_MV_bribes, y_Briber_fewestNuts, y_Briber_bestVote, y_Briber_nutsBy, y_Briber_price, y_Briber_sharesOut, y_MV_odds, y_Sleepers_weighs, y_Sleepers_waysFrom, y_Sleepers_commonDivisor, y_MV_knows, y_Likings_learns, y_MV_forget, y_MV_can, y_Likings_surveys, y_Likings_spreads, y_Likings_isAsKnown, y_Likings_takesIn, y_MV_next] ++ [y_Likings_bestToTry, y_Likings_greatestPart, y_MV_rate, y_Rater_ratesAs, y_Rater_cap, y_Rater_ape, y_Rater_flea, y_Rater_jacket, y_Rater_convention, y_Rater_heart, y_MV_keep, y_MV_back, y_MV_count, y_MV_trace, y_Mod_init, y_Mod_type, y_Mod_in, y_Mod_clear, y_Mod_kingdom, y_Mod_reads] ++ [y_Mod_letterAt, y_Mod_isFigure, y_Mod_readItem, y_Mod_mayBegin, y_Mod_readBody, y_Mod_takesNumber, y_Mod_readMonkey, y_Mod_streetsSaid, y_Mod_tunesSaid, y_Mod_settles, y_Mod_monkey, y_Mod_isMonkey, y_Mod_asItIs, y_Mod_copy, y_Mod_voteOf, y_Mod_sign, y_Mod_like, y_Mod_isTune, y_Mod_organ, y_Mod_isOrgan] ++ [y_Mod_now, y_Mod_votes, y_Mod_carries, y_Mod_plays, y_Mod_remembers, y_Mod_played, y_Mod_heardBy, y_Mod_moves, y_Mod_mends, y_Mod_gives, y_Mod_weather, y_Mod_poll, y_Mod_undo, y_Mod_plan, y_Mod_twelves, y_Mod_isRow, y_Mod_round, y_Mod_bribes, y_Mod_threes, y_Mod_waysBy] ++ [y_Mod_needs, y_Mod_odds, y_Mod_has, y_Mod_lowest, y_Mod_knows, y_Mod_forget, y_Mod_can, y_Mod_sevens, y_Mod_isSo, y_Mod_likeIn, y_Mod_next, y_Mod_greatestPart, y_Mod_rate, y_Mod_keep, y_Mod_back, y_Mod_count, y_Mod_trace]
set_option maxRecDepth 100000 in
theorem mv_mtl_eq : mv_mtl = mv_front ++ [y_Law_law] := rfl
theorem mv_front_len : mv_front.length = 157 := by decide +kernel
theorem mv_mw_law : mv_mw[157]? = some (0, 2, 0, 0, 0, 0) := by decide +kernel
theorem mv_front_code : ∀ y ∈ mv_front, Jvm.Cond.code y.1.1 y.1.2.1 y.1.2.2.1 y.1.2.2.2 ∈ lw_tbl := by
  intro y hy
  unfold mv_front at hy
  simp only [List.mem_append] at hy
  rcases hy with (((((((h | h) | h) | h) | h) | h) | h) | h)
  · exact mv_cw_mem mv_cw0 y h
  · exact mv_cw_mem mv_cw1 y h
  · exact mv_cw_mem mv_cw2 y h
  · exact mv_cw_mem mv_cw3 y h
  · exact mv_cw_mem mv_cw4 y h
  · exact mv_cw_mem mv_cw5 y h
  · exact mv_cw_mem mv_cw6 y h
  · exact mv_cw_mem mv_cw7 y h
/-- a method that isn't the law: its code's word -/
theorem mv_code_k {k : Nat} {y : mv_Y} {q : Nat × Nat × Nat × Nat × Nat × Nat} (hy : mv_mt k = some y) (hq : mv_mw[k]? = some q) (hl : q.2.1 ≠ 2) : Jvm.Cond.code y.1.1 y.1.2.1 y.1.2.2.1 y.1.2.2.2 ∈ lw_tbl := by
  unfold mv_mt at hy
  rw [mv_mtl_eq] at hy
  rcases Nat.lt_trichotomy k 157 with h | h | h
  · rw [List.getElem?_append_left (by rw [mv_front_len]; exact h)] at hy
    exact mv_front_code y (List.mem_of_getElem? hy)
  · subst h
    rw [mv_mw_law] at hq
    cases hq
    exact absurd rfl hl
  · rw [List.getElem?_eq_none (by rw [List.length_append, mv_front_len]; exact h)] at hy
    cases hy
