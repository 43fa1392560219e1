abbrev rm_X10_init : Room := { frames := 2, cells := 0, slots := 0, locals := 40 }
theorem zy_X10_init : ZY yX10_init cX10_init 1 none 0 := ⟨kw_20, kw_1, by decide +kernel⟩
abbrev rm_X10_unit : Room := { frames := 5, cells := 0, slots := 0, locals := 106 }
theorem zy_X10_unit : ZY yX10_unit cX10_unit 2 (some .int) 1 := ⟨kw_50, kw_1, by decide +kernel⟩
abbrev rm_X10_lead : Room := { frames := 1, cells := 0, slots := 0, locals := 21 }
theorem zy_X10_lead : ZY yX10_lead cX10_lead 7 (some .int) 3 := ⟨kw_249, kw_1, by decide +kernel⟩
abbrev rm_X10_rate : Room := { frames := 1, cells := 0, slots := 0, locals := 23 }
theorem zy_X10_rate : ZY yX10_rate cX10_rate 5 (some .int) 3 := ⟨kw_267, kw_1, by decide +kernel⟩
abbrev rm_X10_table : Room := { frames := 3, cells := 0, slots := 0, locals := 67 }
theorem zy_X10_table : ZY yX10_table cX10_table 8 (some .int) 5 := ⟨kw_285, kw_1, by decide +kernel⟩
abbrev rm_X10_set : Room := { frames := 1, cells := 0, slots := 0, locals := 23 }
theorem zy_X10_set : ZY yX10_set cX10_set 5 (some .int) 3 := ⟨kw_306, kw_1, by decide +kernel⟩
abbrev rm_X10_control : Room := { frames := 1, cells := 0, slots := 0, locals := 23 }
theorem zy_X10_control : ZY yX10_control cX10_control 7 (some .int) 4 := ⟨kw_321, kw_1, by decide +kernel⟩
abbrev rm_X10_turn : Room := { frames := 1, cells := 0, slots := 0, locals := 21 }
theorem zy_X10_turn : ZY yX10_turn cX10_turn 6 (some .int) 2 := ⟨kw_333, kw_1, by decide +kernel⟩
abbrev rm_X10_run : Room := { frames := 5, cells := 0, slots := 0, locals := 109 }
theorem zy_X10_run : ZY yX10_run cX10_run 3 (some .int) 1 := ⟨kw_337, kw_1, by decide +kernel⟩
abbrev rm_X10_hold : Room := { frames := 1, cells := 0, slots := 0, locals := 21 }
theorem zy_X10_hold : ZY yX10_hold cX10_hold 4 (some .int) 2 := ⟨kw_452, kw_1, by decide +kernel⟩
abbrev rm_X10_about : Room := { frames := 3, cells := 0, slots := 0, locals := 64 }
theorem zy_X10_about : ZY yX10_about cX10_about 4 (some .int) 2 := ⟨kw_456, kw_1, by decide +kernel⟩
abbrev rm_X10_told : Room := { frames := 1, cells := 0, slots := 0, locals := 21 }
theorem zy_X10_told : ZY yX10_told cX10_told 4 (some .int) 2 := ⟨kw_499, kw_1, by decide +kernel⟩
abbrev rm_X10_sum : Room := { frames := 4, cells := 0, slots := 0, locals := 90 }
theorem zy_X10_sum : ZY yX10_sum cX10_sum 7 (some .long) 2 := ⟨kw_503, kw_1, by decide +kernel⟩
abbrev rm_X10_ledBack : Room := { frames := 2, cells := 0, slots := 0, locals := 42 }
theorem zy_X10_ledBack : ZY yX10_ledBack cX10_ledBack 7 (some .long) 4 := ⟨kw_532, kw_1, by decide +kernel⟩
abbrev rm_X10_reading : Room := { frames := 1, cells := 0, slots := 0, locals := 23 }
theorem zy_X10_reading : ZY yX10_reading cX10_reading 7 (some .int) 4 := ⟨kw_540, kw_1, by decide +kernel⟩
abbrev rm_X10_close : Room := { frames := 3, cells := 0, slots := 0, locals := 72 }
theorem zy_X10_close : ZY yX10_close cX10_close 6 (some .long) 3 := ⟨kw_557, kw_1, by decide +kernel⟩
abbrev rm_X10_load : Room := { frames := 1, cells := 0, slots := 0, locals := 25 }
theorem zy_X10_load : ZY yX10_load cX10_load 4 (some .int) 3 := ⟨kw_577, kw_1, by decide +kernel⟩
abbrev rm_X10_unload : Room := { frames := 1, cells := 0, slots := 0, locals := 21 }
theorem zy_X10_unload : ZY yX10_unload cX10_unload 1 (some .int) 0 := ⟨kw_593, kw_1, by decide +kernel⟩
abbrev rm_X10_blend : Room := { frames := 1, cells := 0, slots := 0, locals := 27 }
theorem zy_X10_blend : ZY yX10_blend cX10_blend 4 (some .int) 3 := ⟨kw_601, kw_1, by decide +kernel⟩
abbrev rm_X10_count : Room := { frames := 2, cells := 0, slots := 0, locals := 43 }
theorem zy_X10_count : ZY yX10_count cX10_count 2 (some .int) 1 := ⟨kw_609, kw_1, by decide +kernel⟩
abbrev rm_X10_newUnit : Room := { frames := 4, cells := 0, slots := 0, locals := 86 }
theorem zy_X10_newUnit : ZY yX10_newUnit cX10_newUnit 1 (some (.object "GrindWorks$Unit")) 1 := ⟨kw_53, kw_1, by decide +kernel⟩
abbrev rm_X10_unitAt : Room := { frames := 0, cells := 0, slots := 0, locals := 0 }
theorem zy_X10_unitAt : ZY yX10_unitAt cX10_unitAt 2 (some (.object "GrindWorks$Unit")) 1 := ⟨kw_252, kw_1, by decide +kernel⟩
abbrev rm_X10_isCell : Room := { frames := 0, cells := 0, slots := 0, locals := 0 }
theorem zy_X10_isCell : ZY yX10_isCell cX10_isCell 1 (some .boolean) 1 := ⟨kw_270, kw_1, by decide +kernel⟩
abbrev rm_X10_isSize : Room := { frames := 0, cells := 0, slots := 0, locals := 0 }
theorem zy_X10_isSize : ZY yX10_isSize cX10_isSize 1 (some .boolean) 1 := ⟨kw_288, kw_1, by decide +kernel⟩
abbrev rm_X10_isStuff : Room := { frames := 0, cells := 0, slots := 0, locals := 0 }
theorem zy_X10_isStuff : ZY yX10_isStuff cX10_isStuff 1 (some .boolean) 1 := ⟨kw_506, kw_1, by decide +kernel⟩
abbrev rm_X10_isLevel : Room := { frames := 0, cells := 0, slots := 0, locals := 0 }
theorem zy_X10_isLevel : ZY yX10_isLevel cX10_isLevel 1 (some .boolean) 1 := ⟨kw_324, kw_1, by decide +kernel⟩
abbrev rm_X10_areTenths : Room := { frames := 0, cells := 0, slots := 0, locals := 0 }
theorem zy_X10_areTenths : ZY yX10_areTenths cX10_areTenths 3 (some .boolean) 3 := ⟨kw_291, kw_1, by decide +kernel⟩
abbrev rm_X10_hasSizesFor : Room := { frames := 1, cells := 0, slots := 0, locals := 20 }
theorem zy_X10_hasSizesFor : ZY yX10_hasSizesFor cX10_hasSizesFor 4 (some .boolean) 4 := ⟨kw_295, kw_1, by decide +kernel⟩
abbrev rm_X10_passMinute : Room := { frames := 4, cells := 0, slots := 0, locals := 86 }
theorem zy_X10_passMinute : ZY yX10_passMinute cX10_passMinute 4 none 0 := ⟨kw_340, kw_1, by decide +kernel⟩
abbrev rm_X10_bringWhatGave : Room := { frames := 2, cells := 0, slots := 0, locals := 44 }
theorem zy_X10_bringWhatGave : ZY yX10_bringWhatGave cX10_bringWhatGave 5 none 2 := ⟨kw_399, kw_1, by decide +kernel⟩
abbrev rm_X10_controlFeed : Room := { frames := 3, cells := 0, slots := 0, locals := 64 }
theorem zy_X10_controlFeed : ZY yX10_controlFeed cX10_controlFeed 3 none 1 := ⟨kw_415, kw_1, by decide +kernel⟩
abbrev rm_X10_isFeedThatIsOn : Room := { frames := 0, cells := 0, slots := 0, locals := 0 }
theorem zy_X10_isFeedThatIsOn : ZY yX10_isFeedThatIsOn cX10_isFeedThatIsOn 2 (some .boolean) 1 := ⟨kw_484, kw_1, by decide +kernel⟩
abbrev rm_X10_countFeedsThatAreOn : Room := { frames := 1, cells := 0, slots := 0, locals := 21 }
theorem zy_X10_countFeedsThatAreOn : ZY yX10_countFeedsThatAreOn cX10_countFeedsThatAreOn 3 (some .int) 0 := ⟨kw_612, kw_1, by decide +kernel⟩
abbrev rm_X10_shareOfSum : Room := { frames := 3, cells := 0, slots := 0, locals := 67 }
theorem zy_X10_shareOfSum : ZY yX10_shareOfSum cX10_shareOfSum 4 (some .long) 3 := ⟨kw_510, kw_1, by decide +kernel⟩
abbrev rm_X10_total : Room := { frames := 0, cells := 0, slots := 0, locals := 0 }
theorem zy_X10_total : ZY yX10_total cX10_total 3 (some .int) 1 := ⟨kw_383, kw_1, by decide +kernel⟩
abbrev rm_X10_totalOfStuff : Room := { frames := 0, cells := 0, slots := 0, locals := 0 }
theorem zy_X10_totalOfStuff : ZY yX10_totalOfStuff cX10_totalOfStuff 4 (some .int) 2 := ⟨kw_354, kw_1, by decide +kernel⟩
abbrev rm_X10_totalOfRows : Room := { frames := 1, cells := 0, slots := 0, locals := 22 }
theorem zy_X10_totalOfRows : ZY yX10_totalOfRows cX10_totalOfRows 3 (some .int) 1 := ⟨kw_430, kw_1, by decide +kernel⟩
abbrev rm_X10_totalOfStuffInRows : Room := { frames := 1, cells := 0, slots := 0, locals := 23 }
theorem zy_X10_totalOfStuffInRows : ZY yX10_totalOfStuffInRows cX10_totalOfStuffInRows 4 (some .int) 2 := ⟨kw_524, kw_1, by decide +kernel⟩
abbrev rm_X10_add : Room := { frames := 0, cells := 0, slots := 0, locals := 0 }
theorem zy_X10_add : ZY yX10_add cX10_add 3 none 2 := ⟨kw_363, kw_1, by decide +kernel⟩
abbrev rm_X10_move : Room := { frames := 1, cells := 0, slots := 0, locals := 23 }
theorem zy_X10_move : ZY yX10_move cX10_move 2 none 2 := ⟨kw_360, kw_1, by decide +kernel⟩
abbrev rm_X11_init : Room := { frames := 1, cells := 0, slots := 0, locals := 20 }
theorem zy_X11_init : ZY yX11_init cX11_init 1 none 0 := ⟨kw_617, kw_3, by decide +kernel⟩
abbrev rm_X11_isIn : Room := { frames := 0, cells := 0, slots := 0, locals := 0 }
theorem zy_X11_isIn : ZY yX11_isIn cX11_isIn 3 (some .boolean) 3 := ⟨kw_687, kw_3, by decide +kernel⟩
abbrev rm_X11_isUnit : Room := { frames := 1, cells := 0, slots := 0, locals := 22 }
theorem zy_X11_isUnit : ZY yX11_isUnit cX11_isUnit 2 (some .boolean) 1 := ⟨kw_694, kw_3, by decide +kernel⟩
abbrev rm_X11_ports : Room := { frames := 0, cells := 0, slots := 0, locals := 0 }
theorem zy_X11_ports : ZY yX11_ports cX11_ports 2 (some .int) 1 := ⟨kw_697, kw_3, by decide +kernel⟩
abbrev rm_X11_unit : Room := { frames := 1, cells := 0, slots := 0, locals := 22 }
theorem zy_X11_unit : ZY yX11_unit cX11_unit 4 (some .int) 1 := ⟨kw_684, kw_3, by decide +kernel⟩
abbrev rm_X11_lead : Room := { frames := 2, cells := 0, slots := 0, locals := 43 }
theorem zy_X11_lead : ZY yX11_lead cX11_lead 5 (some .int) 3 := ⟨kw_691, kw_3, by decide +kernel⟩
abbrev rm_X11_rate : Room := { frames := 2, cells := 0, slots := 0, locals := 43 }
theorem zy_X11_rate : ZY yX11_rate cX11_rate 5 (some .int) 3 := ⟨kw_701, kw_3, by decide +kernel⟩
abbrev rm_X11_table : Room := { frames := 2, cells := 0, slots := 0, locals := 43 }
theorem zy_X11_table : ZY yX11_table cX11_table 8 (some .int) 5 := ⟨kw_705, kw_3, by decide +kernel⟩
abbrev rm_X11_settings : Room := { frames := 0, cells := 0, slots := 0, locals := 0 }
theorem zy_X11_settings : ZY yX11_settings cX11_settings 2 (some .int) 1 := ⟨kw_712, kw_3, by decide +kernel⟩
abbrev rm_X11_set : Room := { frames := 3, cells := 0, slots := 0, locals := 65 }
theorem zy_X11_set : ZY yX11_set cX11_set 5 (some .int) 3 := ⟨kw_709, kw_3, by decide +kernel⟩
abbrev rm_X11_control : Room := { frames := 2, cells := 0, slots := 0, locals := 43 }
theorem zy_X11_control : ZY yX11_control cX11_control 5 (some .int) 4 := ⟨kw_723, kw_3, by decide +kernel⟩
abbrev rm_X11_turn : Room := { frames := 2, cells := 0, slots := 0, locals := 43 }
theorem zy_X11_turn : ZY yX11_turn cX11_turn 4 (some .int) 2 := ⟨kw_728, kw_3, by decide +kernel⟩
abbrev rm_X11_spot : Room := { frames := 0, cells := 0, slots := 0, locals := 0 }
theorem zy_X11_spot : ZY yX11_spot cX11_spot 2 (some .int) 2 := ⟨kw_719, kw_3, by decide +kernel⟩
abbrev rm_X11_outAt : Room := { frames := 0, cells := 0, slots := 0, locals := 0 }
theorem zy_X11_outAt : ZY yX11_outAt cX11_outAt 4 (some .int) 3 := ⟨kw_741, kw_3, by decide +kernel⟩
abbrev rm_X11_gives : Room := { frames := 3, cells := 0, slots := 0, locals := 73 }
theorem zy_X11_gives : ZY yX11_gives cX11_gives 3 none 1 := ⟨kw_738, kw_3, by decide +kernel⟩
abbrev rm_X11_mills : Room := { frames := 1, cells := 0, slots := 0, locals := 23 }
theorem zy_X11_mills : ZY yX11_mills cX11_mills 8 none 3 := ⟨kw_744, kw_3, by decide +kernel⟩
abbrev rm_X11_parts : Room := { frames := 1, cells := 0, slots := 0, locals := 23 }
theorem zy_X11_parts : ZY yX11_parts cX11_parts 7 none 2 := ⟨kw_748, kw_3, by decide +kernel⟩
abbrev rm_X11_slotAt : Room := { frames := 0, cells := 0, slots := 0, locals := 0 }
theorem zy_X11_slotAt : ZY yX11_slotAt cX11_slotAt 4 (some .int) 3 := ⟨kw_754, kw_3, by decide +kernel⟩
abbrev rm_X11_tanks : Room := { frames := 1, cells := 0, slots := 0, locals := 23 }
theorem zy_X11_tanks : ZY yX11_tanks cX11_tanks 9 none 1 := ⟨kw_751, kw_3, by decide +kernel⟩
abbrev rm_X11_lotAt : Room := { frames := 0, cells := 0, slots := 0, locals := 0 }
theorem zy_X11_lotAt : ZY yX11_lotAt cX11_lotAt 4 (some .int) 3 := ⟨kw_763, kw_3, by decide +kernel⟩
abbrev rm_X11_lotSum : Room := { frames := 1, cells := 0, slots := 0, locals := 23 }
theorem zy_X11_lotSum : ZY yX11_lotSum cX11_lotSum 5 (some .int) 2 := ⟨kw_766, kw_3, by decide +kernel⟩
abbrev rm_X11_piles : Room := { frames := 2, cells := 0, slots := 0, locals := 47 }
theorem zy_X11_piles : ZY yX11_piles cX11_piles 7 none 1 := ⟨kw_757, kw_3, by decide +kernel⟩
abbrev rm_X11_sumOf : Room := { frames := 1, cells := 0, slots := 0, locals := 21 }
theorem zy_X11_sumOf : ZY yX11_sumOf cX11_sumOf 4 (some .int) 1 := ⟨kw_760, kw_3, by decide +kernel⟩
abbrev rm_X11_comes : Room := { frames := 1, cells := 0, slots := 0, locals := 23 }
theorem zy_X11_comes : ZY yX11_comes cX11_comes 6 none 2 := ⟨kw_769, kw_3, by decide +kernel⟩
abbrev rm_X11_levelOf : Room := { frames := 2, cells := 0, slots := 0, locals := 47 }
theorem zy_X11_levelOf : ZY yX11_levelOf cX11_levelOf 5 (some .int) 1 := ⟨kw_772, kw_3, by decide +kernel⟩
abbrev rm_X11_minute : Room := { frames := 4, cells := 0, slots := 0, locals := 95 }
theorem zy_X11_minute : ZY yX11_minute cX11_minute 3 none 0 := ⟨kw_735, kw_3, by decide +kernel⟩
abbrev rm_X11_run : Room := { frames := 5, cells := 0, slots := 0, locals := 117 }
theorem zy_X11_run : ZY yX11_run cX11_run 3 (some .int) 1 := ⟨kw_732, kw_3, by decide +kernel⟩
abbrev rm_X11_hold : Room := { frames := 2, cells := 0, slots := 0, locals := 43 }
theorem zy_X11_hold : ZY yX11_hold cX11_hold 3 (some .int) 2 := ⟨kw_776, kw_3, by decide +kernel⟩
abbrev rm_X11_gave : Room := { frames := 1, cells := 0, slots := 0, locals := 23 }
theorem zy_X11_gave : ZY yX11_gave cX11_gave 5 (some .int) 2 := ⟨kw_789, kw_3, by decide +kernel⟩
abbrev rm_X11_lotSums : Room := { frames := 2, cells := 0, slots := 0, locals := 47 }
theorem zy_X11_lotSums : ZY yX11_lotSums cX11_lotSums 4 (some .int) 1 := ⟨kw_783, kw_3, by decide +kernel⟩
abbrev rm_X11_about : Room := { frames := 3, cells := 0, slots := 0, locals := 71 }
theorem zy_X11_about : ZY yX11_about cX11_about 3 (some .int) 2 := ⟨kw_780, kw_3, by decide +kernel⟩
abbrev rm_X11_spiltOf : Room := { frames := 1, cells := 0, slots := 0, locals := 21 }
theorem zy_X11_spiltOf : ZY yX11_spiltOf cX11_spiltOf 5 (some .long) 1 := ⟨kw_786, kw_3, by decide +kernel⟩
abbrev rm_X11_told : Room := { frames := 2, cells := 0, slots := 0, locals := 43 }
theorem zy_X11_told : ZY yX11_told cX11_told 3 (some .int) 2 := ⟨kw_716, kw_3, by decide +kernel⟩
abbrev rm_X11_within : Room := { frames := 1, cells := 0, slots := 0, locals := 23 }
theorem zy_X11_within : ZY yX11_within cX11_within 7 (some .long) 2 := ⟨kw_798, kw_3, by decide +kernel⟩
abbrev rm_X11_sum : Room := { frames := 2, cells := 0, slots := 0, locals := 49 }
theorem zy_X11_sum : ZY yX11_sum cX11_sum 7 (some .long) 2 := ⟨kw_794, kw_3, by decide +kernel⟩
abbrev rm_X11_ledBack : Room := { frames := 2, cells := 0, slots := 0, locals := 43 }
theorem zy_X11_ledBack : ZY yX11_ledBack cX11_ledBack 5 (some .long) 4 := ⟨kw_802, kw_3, by decide +kernel⟩
abbrev rm_X11_isRead : Room := { frames := 0, cells := 0, slots := 0, locals := 0 }
theorem zy_X11_isRead : ZY yX11_isRead cX11_isRead 2 (some .boolean) 1 := ⟨kw_809, kw_3, by decide +kernel⟩
abbrev rm_X11_reading : Room := { frames := 2, cells := 0, slots := 0, locals := 43 }
theorem zy_X11_reading : ZY yX11_reading cX11_reading 5 (some .int) 4 := ⟨kw_806, kw_3, by decide +kernel⟩
abbrev rm_X11_close : Room := { frames := 2, cells := 0, slots := 0, locals := 43 }
theorem zy_X11_close : ZY yX11_close cX11_close 16 (some .long) 3 := ⟨kw_813, kw_3, by decide +kernel⟩
abbrev rm_X11_load : Room := { frames := 1, cells := 0, slots := 0, locals := 22 }
theorem zy_X11_load : ZY yX11_load cX11_load 4 (some .int) 3 := ⟨kw_818, kw_3, by decide +kernel⟩
abbrev rm_X11_unload : Room := { frames := 0, cells := 0, slots := 0, locals := 0 }
theorem zy_X11_unload : ZY yX11_unload cX11_unload 2 (some .int) 0 := ⟨kw_822, kw_3, by decide +kernel⟩
abbrev rm_X11_blend : Room := { frames := 1, cells := 0, slots := 0, locals := 22 }
theorem zy_X11_blend : ZY yX11_blend cX11_blend 11 (some .int) 3 := ⟨kw_826, kw_3, by decide +kernel⟩
abbrev rm_X11_count : Room := { frames := 0, cells := 0, slots := 0, locals := 0 }
theorem zy_X11_count : ZY yX11_count cX11_count 4 (some .int) 1 := ⟨kw_830, kw_3, by decide +kernel⟩
abbrev rm_X0_init : Room := { frames := 3, cells := 0, slots := 0, locals := 65 }
theorem zy_X0_init : ZY yX0_init cX0_init 1 none 0 := ⟨kw_234, kw_14, by decide +kernel⟩
abbrev rm_X0_give : Room := { frames := 0, cells := 0, slots := 0, locals := 0 }
theorem zy_X0_give : ZY yX0_give cX0_give 1 none 0 := ⟨kw_345, kw_14, by decide +kernel⟩
abbrev rm_X0_take : Room := { frames := 1, cells := 0, slots := 0, locals := 22 }
theorem zy_X0_take : ZY yX0_take cX0_take 3 none 2 := ⟨kw_405, kw_14, by decide +kernel⟩
abbrev rm_X0_cameFrom : Room := { frames := 1, cells := 0, slots := 0, locals := 20 }
theorem zy_X0_cameFrom : ZY yX0_cameFrom cX0_cameFrom 3 (some .int) 2 := ⟨kw_536, kw_14, by decide +kernel⟩
abbrev rm_X1_init : Room := { frames := 3, cells := 0, slots := 0, locals := 65 }
theorem zy_X1_init : ZY yX1_init cX1_init 1 none 0 := ⟨kw_58, kw_5, by decide +kernel⟩
abbrev rm_X1_give : Room := { frames := 1, cells := 0, slots := 0, locals := 40 }
theorem zy_X1_give : ZY yX1_give cX1_give 2 none 0 := ⟨kw_348, kw_5, by decide +kernel⟩
abbrev rm_X1_controlBy : Room := { frames := 0, cells := 0, slots := 0, locals := 0 }
theorem zy_X1_controlBy : ZY yX1_controlBy cX1_controlBy 4 none 3 := ⟨kw_329, kw_5, by decide +kernel⟩
abbrev rm_X1_obey : Room := { frames := 0, cells := 0, slots := 0, locals := 0 }
theorem zy_X1_obey : ZY yX1_obey cX1_obey 2 none 1 := ⟨kw_448, kw_5, by decide +kernel⟩
abbrev rm_X2_init : Room := { frames := 3, cells := 0, slots := 0, locals := 65 }
theorem zy_X2_init : ZY yX2_init cX2_init 1 none 0 := ⟨kw_155, kw_9, by decide +kernel⟩
abbrev rm_X2_give : Room := { frames := 2, cells := 0, slots := 0, locals := 44 }
theorem zy_X2_give : ZY yX2_give cX2_give 1 none 0 := ⟨kw_357, kw_9, by decide +kernel⟩
abbrev rm_X3_init : Room := { frames := 1, cells := 0, slots := 0, locals := 20 }
theorem zy_X3_init : ZY yX3_init cX3_init 1 none 0 := ⟨kw_28, kw_2, by decide +kernel⟩
abbrev rm_X3_isGood : Room := { frames := 0, cells := 0, slots := 0, locals := 0 }
theorem zy_X3_isGood : ZY yX3_isGood cX3_isGood 4 (some .boolean) 3 := ⟨kw_581, kw_2, by decide +kernel⟩
abbrev rm_X3_isFull : Room := { frames := 0, cells := 0, slots := 0, locals := 0 }
theorem zy_X3_isFull : ZY yX3_isFull cX3_isFull 1 (some .boolean) 0 := ⟨kw_585, kw_2, by decide +kernel⟩
abbrev rm_X3_put : Room := { frames := 0, cells := 0, slots := 0, locals := 0 }
theorem zy_X3_put : ZY yX3_put cX3_put 6 (some .int) 3 := ⟨kw_589, kw_2, by decide +kernel⟩
abbrev rm_X3_clear : Room := { frames := 0, cells := 0, slots := 0, locals := 0 }
theorem zy_X3_clear : ZY yX3_clear cX3_clear 2 (some .int) 0 := ⟨kw_597, kw_2, by decide +kernel⟩
abbrev rm_X3_choose : Room := { frames := 0, cells := 0, slots := 0, locals := 0 }
theorem zy_X3_choose : ZY yX3_choose cX3_choose 8 (some .int) 3 := ⟨kw_605, kw_2, by decide +kernel⟩
abbrev rm_X4_init : Room := { frames := 3, cells := 0, slots := 0, locals := 65 }
theorem zy_X4_init : ZY yX4_init cX4_init 2 none 0 := ⟨kw_168, kw_10, by decide +kernel⟩
abbrev rm_X4_breakSize : Room := { frames := 2, cells := 0, slots := 0, locals := 43 }
theorem zy_X4_breakSize : ZY yX4_breakSize cX4_breakSize 5 none 4 := ⟨kw_299, kw_10, by decide +kernel⟩
abbrev rm_X4_tellTenths : Room := { frames := 1, cells := 0, slots := 0, locals := 20 }
theorem zy_X4_tellTenths : ZY yX4_tellTenths cX4_tellTenths 4 none 3 := ⟨kw_302, kw_10, by decide +kernel⟩
abbrev rm_X4_give : Room := { frames := 1, cells := 0, slots := 0, locals := 27 }
theorem zy_X4_give : ZY yX4_give cX4_give 2 none 0 := ⟨kw_367, kw_10, by decide +kernel⟩
abbrev rm_X4_grind : Room := { frames := 0, cells := 0, slots := 0, locals := 0 }
theorem zy_X4_grind : ZY yX4_grind cX4_grind 8 none 1 := ⟨kw_371, kw_10, by decide +kernel⟩
abbrev rm_X5_init : Room := { frames := 3, cells := 0, slots := 0, locals := 65 }
theorem zy_X5_init : ZY yX5_init cX5_init 2 none 1 := ⟨kw_181, kw_11, by decide +kernel⟩
abbrev rm_X5_give : Room := { frames := 1, cells := 0, slots := 0, locals := 21 }
theorem zy_X5_give : ZY yX5_give cX5_give 4 none 0 := ⟨kw_374, kw_11, by decide +kernel⟩
abbrev rm_X5_shareOf : Room := { frames := 0, cells := 0, slots := 0, locals := 0 }
theorem zy_X5_shareOf : ZY yX5_shareOf cX5_shareOf 2 (some .int) 1 := ⟨kw_377, kw_11, by decide +kernel⟩
abbrev rm_X6_init : Room := { frames := 3, cells := 0, slots := 0, locals := 65 }
theorem zy_X6_init : ZY yX6_init cX6_init 1 none 0 := ⟨kw_214, kw_13, by decide +kernel⟩
abbrev rm_X6_give : Room := { frames := 3, cells := 0, slots := 0, locals := 64 }
theorem zy_X6_give : ZY yX6_give cX6_give 3 none 0 := ⟨kw_380, kw_13, by decide +kernel⟩
abbrev rm_X6_heap : Room := { frames := 2, cells := 0, slots := 0, locals := 44 }
theorem zy_X6_heap : ZY yX6_heap cX6_heap 1 none 0 := ⟨kw_386, kw_13, by decide +kernel⟩
abbrev rm_X6_inLots : Room := { frames := 2, cells := 0, slots := 0, locals := 44 }
theorem zy_X6_inLots : ZY yX6_inLots cX6_inLots 1 (some .int) 0 := ⟨kw_442, kw_13, by decide +kernel⟩
abbrev rm_X6_lotCount : Room := { frames := 0, cells := 0, slots := 0, locals := 0 }
theorem zy_X6_lotCount : ZY yX6_lotCount cX6_lotCount 1 (some .int) 0 := ⟨kw_467, kw_13, by decide +kernel⟩
abbrev rm_X6_storedOfStuff : Room := { frames := 2, cells := 0, slots := 0, locals := 46 }
theorem zy_X6_storedOfStuff : ZY yX6_storedOfStuff cX6_storedOfStuff 2 (some .int) 1 := ⟨kw_522, kw_13, by decide +kernel⟩
abbrev rm_X7_init : Room := { frames := 1, cells := 0, slots := 0, locals := 23 }
theorem zy_X7_init : ZY yX7_init cX7_init 2 none 1 := ⟨kw_71, kw_7, by decide +kernel⟩
abbrev rm_X7_has : Room := { frames := 0, cells := 0, slots := 0, locals := 0 }
theorem zy_X7_has : ZY yX7_has cX7_has 2 (some .boolean) 1 := ⟨kw_544, kw_7, by decide +kernel⟩
abbrev rm_X7_areGood : Room := { frames := 0, cells := 0, slots := 0, locals := 0 }
theorem zy_X7_areGood : ZY yX7_areGood cX7_areGood 3 (some .boolean) 2 := ⟨kw_548, kw_7, by decide +kernel⟩
abbrev rm_X7_put : Room := { frames := 0, cells := 0, slots := 0, locals := 0 }
theorem zy_X7_put : ZY yX7_put cX7_put 4 none 3 := ⟨kw_553, kw_7, by decide +kernel⟩
abbrev rm_X7_closing : Room := { frames := 2, cells := 0, slots := 0, locals := 42 }
theorem zy_X7_closing : ZY yX7_closing cX7_closing 11 (some .long) 2 := ⟨kw_561, kw_7, by decide +kernel⟩
abbrev rm_X7_wanting : Room := { frames := 1, cells := 0, slots := 0, locals := 22 }
theorem zy_X7_wanting : ZY yX7_wanting cX7_wanting 1 (some .int) 0 := ⟨kw_564, kw_7, by decide +kernel⟩
abbrev rm_X7_commonDivisor : Room := { frames := 0, cells := 0, slots := 0, locals := 0 }
theorem zy_X7_commonDivisor : ZY yX7_commonDivisor cX7_commonDivisor 11 (some .long) 2 := ⟨kw_570, kw_7, by decide +kernel⟩
abbrev rm_X8_init : Room := { frames := 3, cells := 0, slots := 0, locals := 65 }
theorem zy_X8_init : ZY yX8_init cX8_init 1 none 0 := ⟨kw_196, kw_12, by decide +kernel⟩
abbrev rm_X8_give : Room := { frames := 2, cells := 0, slots := 0, locals := 44 }
theorem zy_X8_give : ZY yX8_give cX8_give 2 none 0 := ⟨kw_389, kw_12, by decide +kernel⟩
abbrev rm_X8_slotOfAge : Room := { frames := 1, cells := 0, slots := 0, locals := 22 }
theorem zy_X8_slotOfAge : ZY yX8_slotOfAge cX8_slotOfAge 2 (some .int) 1 := ⟨kw_393, kw_12, by decide +kernel⟩
abbrev rm_X8_inSlots : Room := { frames := 2, cells := 0, slots := 0, locals := 44 }
theorem zy_X8_inSlots : ZY yX8_inSlots cX8_inSlots 1 (some .int) 0 := ⟨kw_428, kw_12, by decide +kernel⟩
abbrev rm_X8_storedOfStuff : Room := { frames := 2, cells := 0, slots := 0, locals := 46 }
theorem zy_X8_storedOfStuff : ZY yX8_storedOfStuff cX8_storedOfStuff 2 (some .int) 1 := ⟨kw_527, kw_12, by decide +kernel⟩
abbrev rm_X9_init : Room := { frames := 2, cells := 0, slots := 0, locals := 44 }
theorem zy_X9_init : ZY yX9_init cX9_init 2 none 1 := ⟨kw_61, kw_4, by decide +kernel⟩
abbrev rm_X9_take : Room := { frames := 1, cells := 0, slots := 0, locals := 22 }
theorem zy_X9_take : ZY yX9_take cX9_take 3 none 2 := ⟨kw_412, kw_4, by decide +kernel⟩
abbrev rm_X9_inSlots : Room := { frames := 0, cells := 0, slots := 0, locals := 0 }
theorem zy_X9_inSlots : ZY yX9_inSlots cX9_inSlots 1 (some .int) 0 := ⟨kw_431, kw_4, by decide +kernel⟩
abbrev rm_X9_inLots : Room := { frames := 0, cells := 0, slots := 0, locals := 0 }
theorem zy_X9_inLots : ZY yX9_inLots cX9_inLots 1 (some .int) 0 := ⟨kw_444, kw_4, by decide +kernel⟩
abbrev rm_X9_lotCount : Room := { frames := 0, cells := 0, slots := 0, locals := 0 }
theorem zy_X9_lotCount : ZY yX9_lotCount cX9_lotCount 1 (some .int) 0 := ⟨kw_469, kw_4, by decide +kernel⟩
abbrev rm_X9_storedOfStuff : Room := { frames := 0, cells := 0, slots := 0, locals := 0 }
theorem zy_X9_storedOfStuff : ZY yX9_storedOfStuff cX9_storedOfStuff 2 (some .int) 1 := ⟨kw_528, kw_4, by decide +kernel⟩
abbrev rm_X9_hasPort : Room := { frames := 0, cells := 0, slots := 0, locals := 0 }
theorem zy_X9_hasPort : ZY yX9_hasPort cX9_hasPort 2 (some .boolean) 1 := ⟨kw_263, kw_4, by decide +kernel⟩
abbrev rm_X9_hasNumber : Room := { frames := 0, cells := 0, slots := 0, locals := 0 }
theorem zy_X9_hasNumber : ZY yX9_hasNumber cX9_hasNumber 2 (some .boolean) 1 := ⟨kw_317, kw_4, by decide +kernel⟩
abbrev rm_X9_change : Room := { frames := 0, cells := 0, slots := 0, locals := 0 }
theorem zy_X9_change : ZY yX9_change cX9_change 4 (some .int) 2 := ⟨kw_281, kw_4, by decide +kernel⟩
abbrev rm_X9_leadOf : Room := { frames := 1, cells := 0, slots := 0, locals := 21 }
theorem zy_X9_leadOf : ZY yX9_leadOf cX9_leadOf 2 (some .int) 1 := ⟨kw_480, kw_4, by decide +kernel⟩
abbrev rm_X9_gaveBy : Room := { frames := 1, cells := 0, slots := 0, locals := 22 }
theorem zy_X9_gaveBy : ZY yX9_gaveBy cX9_gaveBy 2 (some .int) 1 := ⟨kw_495, kw_4, by decide +kernel⟩
abbrev rm_J9_abs_067f4 : Room := { frames := 0, cells := 0, slots := 0, locals := 0 }
theorem zy_J9_abs_067f4 : ZY yJ9_abs_067f4 cJ9_abs_067f4 2 (some .long) 1 := ⟨kw_567, kw_8, by decide +kernel⟩
abbrev rm_J9_floorMod_7cf53 : Room := { frames := 0, cells := 0, slots := 0, locals := 0 }
theorem zy_J9_floorMod_7cf53 : ZY yJ9_floorMod_7cf53 cJ9_floorMod_7cf53 3 (some .int) 2 := ⟨kw_396, kw_8, by decide +kernel⟩
abbrev rm_J9_max_7cf53 : Room := { frames := 0, cells := 0, slots := 0, locals := 0 }
theorem zy_J9_max_7cf53 : ZY yJ9_max_7cf53 cJ9_max_7cf53 2 (some .int) 2 := ⟨kw_75, kw_8, by decide +kernel⟩
abbrev rm_J9_max_f86c9 : Room := { frames := 0, cells := 0, slots := 0, locals := 0 }
theorem zy_J9_max_f86c9 : ZY yJ9_max_f86c9 cJ9_max_f86c9 4 (some .long) 2 := ⟨kw_573, kw_8, by decide +kernel⟩
abbrev rm_J7_fill_53178 : Room := { frames := 0, cells := 0, slots := 0, locals := 0 }
theorem zy_J7_fill_53178 : ZY yJ7_fill_53178 cJ7_fill_53178 4 none 2 := ⟨kw_65, kw_6, by decide +kernel⟩
theorem zq_X10_13_9 : ZFf "GrindWorks" 13 9 0 (.array (.object "GrindWorks$Unit")) := ⟨_, rfl, by decide, kw_39, rfl, rfl, by decide +kernel⟩
theorem zq_X10_20_9 : ZFf "GrindWorks" 20 9 1 (.object "GrindWorks$Loads") := ⟨_, rfl, by decide, kw_40, rfl, rfl, by decide +kernel⟩
theorem zp_X10_24_9 : ZFp "GrindWorks" 24 9 2 .int := ⟨_, _, rfl, by decide, kw_41, Or.inl rfl, rfl, by decide +kernel⟩
theorem zp_X10_28_9 : ZFp "GrindWorks" 28 9 3 .int := ⟨_, _, rfl, by decide, kw_42, Or.inl rfl, rfl, by decide +kernel⟩
theorem zf_X10_24_9 : ZF "GrindWorks" 24 9 2 := ⟨_, _, rfl, by decide, Or.inl kw_41, Or.inl rfl⟩
theorem zf_X10_13_9 : ZF "GrindWorks" 13 9 0 := ⟨_, _, rfl, by decide, Or.inl kw_39, Or.inl rfl⟩
theorem zf_X10_42_0 : ZF "GrindWorks" 42 0 0 := ⟨_, _, rfl, by decide, Or.inl kw_92, Or.inl rfl⟩
theorem zf_X10_42_1 : ZF "GrindWorks" 42 1 0 := ⟨_, _, rfl, by decide, Or.inl kw_92, Or.inl rfl⟩
theorem zf_X10_42_2 : ZF "GrindWorks" 42 2 0 := ⟨_, _, rfl, by decide, Or.inl kw_92, Or.inl rfl⟩
theorem zf_X10_42_4 : ZF "GrindWorks" 42 4 0 := ⟨_, _, rfl, by decide, Or.inl kw_92, Or.inl rfl⟩
theorem zf_X10_42_5 : ZF "GrindWorks" 42 5 0 := ⟨_, _, rfl, by decide, Or.inl kw_92, Or.inl rfl⟩
theorem zf_X10_42_6 : ZF "GrindWorks" 42 6 0 := ⟨_, _, rfl, by decide, Or.inl kw_92, Or.inl rfl⟩
theorem zf_X10_42_8 : ZF "GrindWorks" 42 8 0 := ⟨_, _, rfl, by decide, Or.inl kw_92, Or.inl rfl⟩
theorem zf_X10_45_0 : ZF "GrindWorks" 45 0 3 := ⟨_, _, rfl, by decide, Or.inl kw_110, Or.inl rfl⟩
theorem zf_X10_45_1 : ZF "GrindWorks" 45 1 3 := ⟨_, _, rfl, by decide, Or.inl kw_110, Or.inl rfl⟩
theorem zf_X10_45_2 : ZF "GrindWorks" 45 2 3 := ⟨_, _, rfl, by decide, Or.inl kw_110, Or.inl rfl⟩
theorem zf_X10_45_4 : ZF "GrindWorks" 45 4 3 := ⟨_, _, rfl, by decide, Or.inl kw_110, Or.inl rfl⟩
theorem zf_X10_45_5 : ZF "GrindWorks" 45 5 3 := ⟨_, _, rfl, by decide, Or.inl kw_110, Or.inl rfl⟩
theorem zf_X10_45_6 : ZF "GrindWorks" 45 6 3 := ⟨_, _, rfl, by decide, Or.inl kw_110, Or.inl rfl⟩
theorem zf_X10_45_8 : ZF "GrindWorks" 45 8 3 := ⟨_, _, rfl, by decide, Or.inl kw_110, Or.inl rfl⟩
theorem zf_X10_85_1 : ZF "GrindWorks" 85 1 8 := ⟨_, _, rfl, by decide, Or.inl kw_84, Or.inl rfl⟩
theorem zp_X10_85_1 : ZFp "GrindWorks" 85 1 8 .boolean := ⟨_, _, rfl, by decide, kw_84, Or.inl rfl, rfl, by decide +kernel⟩
theorem zf_X10_28_9 : ZF "GrindWorks" 28 9 3 := ⟨_, _, rfl, by decide, Or.inl kw_42, Or.inl rfl⟩
theorem zf_X10_92_0 : ZF "GrindWorks" 92 0 1 := ⟨_, _, rfl, by decide, Or.inl kw_106, Or.inl rfl⟩
theorem zf_X10_92_1 : ZF "GrindWorks" 92 1 1 := ⟨_, _, rfl, by decide, Or.inl kw_106, Or.inl rfl⟩
theorem zf_X10_92_2 : ZF "GrindWorks" 92 2 1 := ⟨_, _, rfl, by decide, Or.inl kw_106, Or.inl rfl⟩
theorem zf_X10_92_4 : ZF "GrindWorks" 92 4 1 := ⟨_, _, rfl, by decide, Or.inl kw_106, Or.inl rfl⟩
theorem zf_X10_92_5 : ZF "GrindWorks" 92 5 1 := ⟨_, _, rfl, by decide, Or.inl kw_106, Or.inl rfl⟩
theorem zf_X10_92_6 : ZF "GrindWorks" 92 6 1 := ⟨_, _, rfl, by decide, Or.inl kw_106, Or.inl rfl⟩
theorem zf_X10_92_8 : ZF "GrindWorks" 92 8 1 := ⟨_, _, rfl, by decide, Or.inl kw_106, Or.inl rfl⟩
theorem zf_X10_117_0 : ZF "GrindWorks" 117 0 2 := ⟨_, _, rfl, by decide, Or.inl kw_108, Or.inl rfl⟩
theorem zf_X10_117_1 : ZF "GrindWorks" 117 1 2 := ⟨_, _, rfl, by decide, Or.inl kw_108, Or.inl rfl⟩
theorem zf_X10_117_2 : ZF "GrindWorks" 117 2 2 := ⟨_, _, rfl, by decide, Or.inl kw_108, Or.inl rfl⟩
theorem zf_X10_117_4 : ZF "GrindWorks" 117 4 2 := ⟨_, _, rfl, by decide, Or.inl kw_108, Or.inl rfl⟩
theorem zf_X10_117_5 : ZF "GrindWorks" 117 5 2 := ⟨_, _, rfl, by decide, Or.inl kw_108, Or.inl rfl⟩
theorem zf_X10_117_6 : ZF "GrindWorks" 117 6 2 := ⟨_, _, rfl, by decide, Or.inl kw_108, Or.inl rfl⟩
theorem zf_X10_117_8 : ZF "GrindWorks" 117 8 2 := ⟨_, _, rfl, by decide, Or.inl kw_108, Or.inl rfl⟩
theorem zf_X10_123_0 : ZF "GrindWorks" 123 0 5 := ⟨_, _, rfl, by decide, Or.inl kw_136, Or.inl rfl⟩
theorem zf_X10_123_1 : ZF "GrindWorks" 123 1 5 := ⟨_, _, rfl, by decide, Or.inl kw_136, Or.inl rfl⟩
theorem zf_X10_123_2 : ZF "GrindWorks" 123 2 5 := ⟨_, _, rfl, by decide, Or.inl kw_136, Or.inl rfl⟩
theorem zf_X10_123_4 : ZF "GrindWorks" 123 4 5 := ⟨_, _, rfl, by decide, Or.inl kw_136, Or.inl rfl⟩
theorem zf_X10_123_5 : ZF "GrindWorks" 123 5 5 := ⟨_, _, rfl, by decide, Or.inl kw_136, Or.inl rfl⟩
theorem zf_X10_123_6 : ZF "GrindWorks" 123 6 5 := ⟨_, _, rfl, by decide, Or.inl kw_136, Or.inl rfl⟩
theorem zf_X10_123_8 : ZF "GrindWorks" 123 8 5 := ⟨_, _, rfl, by decide, Or.inl kw_136, Or.inl rfl⟩
theorem zf_X10_140_0 : ZF "GrindWorks" 140 0 6 := ⟨_, _, rfl, by decide, Or.inl kw_138, Or.inl rfl⟩
theorem zf_X10_140_1 : ZF "GrindWorks" 140 1 6 := ⟨_, _, rfl, by decide, Or.inl kw_138, Or.inl rfl⟩
theorem zf_X10_140_2 : ZF "GrindWorks" 140 2 6 := ⟨_, _, rfl, by decide, Or.inl kw_138, Or.inl rfl⟩
theorem zf_X10_140_4 : ZF "GrindWorks" 140 4 6 := ⟨_, _, rfl, by decide, Or.inl kw_138, Or.inl rfl⟩
theorem zf_X10_140_5 : ZF "GrindWorks" 140 5 6 := ⟨_, _, rfl, by decide, Or.inl kw_138, Or.inl rfl⟩
theorem zf_X10_140_6 : ZF "GrindWorks" 140 6 6 := ⟨_, _, rfl, by decide, Or.inl kw_138, Or.inl rfl⟩
theorem zf_X10_140_8 : ZF "GrindWorks" 140 8 6 := ⟨_, _, rfl, by decide, Or.inl kw_138, Or.inl rfl⟩
theorem zf_X10_20_9 : ZF "GrindWorks" 20 9 1 := ⟨_, _, rfl, by decide, Or.inl kw_40, Or.inl rfl⟩
theorem zf_X10_176_3 : ZF "GrindWorks" 176 3 3 := ⟨_, _, rfl, by decide, Or.inr (by decide +kernel), Or.inl rfl⟩
theorem zf_X10_213_0 : ZF "GrindWorks" 213 0 4 := ⟨_, _, rfl, by decide, Or.inl kw_124, Or.inl rfl⟩
theorem zf_X10_213_1 : ZF "GrindWorks" 213 1 4 := ⟨_, _, rfl, by decide, Or.inl kw_124, Or.inl rfl⟩
theorem zf_X10_213_2 : ZF "GrindWorks" 213 2 4 := ⟨_, _, rfl, by decide, Or.inl kw_124, Or.inl rfl⟩
theorem zf_X10_213_4 : ZF "GrindWorks" 213 4 4 := ⟨_, _, rfl, by decide, Or.inl kw_124, Or.inl rfl⟩
theorem zf_X10_213_5 : ZF "GrindWorks" 213 5 4 := ⟨_, _, rfl, by decide, Or.inl kw_124, Or.inl rfl⟩
theorem zf_X10_213_6 : ZF "GrindWorks" 213 6 4 := ⟨_, _, rfl, by decide, Or.inl kw_124, Or.inl rfl⟩
theorem zf_X10_213_8 : ZF "GrindWorks" 213 8 4 := ⟨_, _, rfl, by decide, Or.inl kw_124, Or.inl rfl⟩
theorem zf_X10_225_1 : ZF "GrindWorks" 225 1 9 := ⟨_, _, rfl, by decide, Or.inl kw_86, Or.inl rfl⟩
theorem zf_X10_231_1 : ZF "GrindWorks" 231 1 7 := ⟨_, _, rfl, by decide, Or.inl kw_82, Or.inl rfl⟩
theorem zq_X11_9_10 : ZFf "GrindWorksModel" 9 10 3 (.array .int) := ⟨_, rfl, by decide, kw_622, rfl, rfl, by decide +kernel⟩
theorem zq_X11_13_10 : ZFf "GrindWorksModel" 13 10 4 (.array .int) := ⟨_, rfl, by decide, kw_623, rfl, rfl, by decide +kernel⟩
theorem zq_X11_16_10 : ZFf "GrindWorksModel" 16 10 5 (.array .int) := ⟨_, rfl, by decide, kw_624, rfl, rfl, by decide +kernel⟩
theorem zq_X11_19_10 : ZFf "GrindWorksModel" 19 10 6 (.array .int) := ⟨_, rfl, by decide, kw_625, rfl, rfl, by decide +kernel⟩
theorem zq_X11_22_10 : ZFf "GrindWorksModel" 22 10 7 (.array .int) := ⟨_, rfl, by decide, kw_626, rfl, rfl, by decide +kernel⟩
theorem zq_X11_25_10 : ZFf "GrindWorksModel" 25 10 8 (.array .int) := ⟨_, rfl, by decide, kw_627, rfl, rfl, by decide +kernel⟩
theorem zq_X11_28_10 : ZFf "GrindWorksModel" 28 10 9 (.array .int) := ⟨_, rfl, by decide, kw_628, rfl, rfl, by decide +kernel⟩
theorem zq_X11_31_10 : ZFf "GrindWorksModel" 31 10 10 (.array .int) := ⟨_, rfl, by decide, kw_629, rfl, rfl, by decide +kernel⟩
theorem zq_X11_34_10 : ZFf "GrindWorksModel" 34 10 11 (.array .int) := ⟨_, rfl, by decide, kw_630, rfl, rfl, by decide +kernel⟩
theorem zq_X11_37_10 : ZFf "GrindWorksModel" 37 10 12 (.array .int) := ⟨_, rfl, by decide, kw_631, rfl, rfl, by decide +kernel⟩
theorem zq_X11_40_10 : ZFf "GrindWorksModel" 40 10 13 (.array .int) := ⟨_, rfl, by decide, kw_632, rfl, rfl, by decide +kernel⟩
theorem zq_X11_43_10 : ZFf "GrindWorksModel" 43 10 14 (.array .int) := ⟨_, rfl, by decide, kw_633, rfl, rfl, by decide +kernel⟩
theorem zq_X11_46_10 : ZFf "GrindWorksModel" 46 10 15 (.array .boolean) := ⟨_, rfl, by decide, kw_634, rfl, rfl, by decide +kernel⟩
theorem zq_X11_50_10 : ZFf "GrindWorksModel" 50 10 16 (.array .int) := ⟨_, rfl, by decide, kw_635, rfl, rfl, by decide +kernel⟩
theorem zq_X11_53_10 : ZFf "GrindWorksModel" 53 10 17 (.array .int) := ⟨_, rfl, by decide, kw_636, rfl, rfl, by decide +kernel⟩
theorem zq_X11_56_10 : ZFf "GrindWorksModel" 56 10 18 (.array .int) := ⟨_, rfl, by decide, kw_637, rfl, rfl, by decide +kernel⟩
theorem zq_X11_59_10 : ZFf "GrindWorksModel" 59 10 19 (.array .int) := ⟨_, rfl, by decide, kw_638, rfl, rfl, by decide +kernel⟩
theorem zq_X11_62_10 : ZFf "GrindWorksModel" 62 10 20 (.array .int) := ⟨_, rfl, by decide, kw_639, rfl, rfl, by decide +kernel⟩
theorem zq_X11_65_10 : ZFf "GrindWorksModel" 65 10 21 (.array .int) := ⟨_, rfl, by decide, kw_640, rfl, rfl, by decide +kernel⟩
theorem zq_X11_68_10 : ZFf "GrindWorksModel" 68 10 22 (.array .long) := ⟨_, rfl, by decide, kw_641, rfl, rfl, by decide +kernel⟩
theorem zq_X11_72_10 : ZFf "GrindWorksModel" 72 10 23 (.array .long) := ⟨_, rfl, by decide, kw_642, rfl, rfl, by decide +kernel⟩
theorem zq_X11_75_10 : ZFf "GrindWorksModel" 75 10 24 (.array .long) := ⟨_, rfl, by decide, kw_643, rfl, rfl, by decide +kernel⟩
theorem zq_X11_78_10 : ZFf "GrindWorksModel" 78 10 25 (.array .int) := ⟨_, rfl, by decide, kw_644, rfl, rfl, by decide +kernel⟩
theorem zq_X11_81_10 : ZFf "GrindWorksModel" 81 10 26 (.array .int) := ⟨_, rfl, by decide, kw_645, rfl, rfl, by decide +kernel⟩
theorem zq_X11_84_10 : ZFf "GrindWorksModel" 84 10 27 (.array .int) := ⟨_, rfl, by decide, kw_646, rfl, rfl, by decide +kernel⟩
theorem zq_X11_87_10 : ZFf "GrindWorksModel" 87 10 28 (.array .int) := ⟨_, rfl, by decide, kw_647, rfl, rfl, by decide +kernel⟩
theorem zq_X11_90_10 : ZFf "GrindWorksModel" 90 10 29 (.array .int) := ⟨_, rfl, by decide, kw_648, rfl, rfl, by decide +kernel⟩
theorem zf_X11_93_10 : ZF "GrindWorksModel" 93 10 0 := ⟨_, _, rfl, by decide, Or.inl kw_619, Or.inl rfl⟩
theorem zf_X11_9_10 : ZF "GrindWorksModel" 9 10 3 := ⟨_, _, rfl, by decide, Or.inl kw_622, Or.inl rfl⟩
theorem zp_X11_93_10 : ZFp "GrindWorksModel" 93 10 0 .int := ⟨_, _, rfl, by decide, kw_619, Or.inl rfl, rfl, by decide +kernel⟩
theorem zf_X11_13_10 : ZF "GrindWorksModel" 13 10 4 := ⟨_, _, rfl, by decide, Or.inl kw_623, Or.inl rfl⟩
theorem zf_X11_46_10 : ZF "GrindWorksModel" 46 10 15 := ⟨_, _, rfl, by decide, Or.inl kw_634, Or.inl rfl⟩
theorem zf_X11_22_10 : ZF "GrindWorksModel" 22 10 7 := ⟨_, _, rfl, by decide, Or.inl kw_626, Or.inl rfl⟩
theorem zf_X11_25_10 : ZF "GrindWorksModel" 25 10 8 := ⟨_, _, rfl, by decide, Or.inl kw_627, Or.inl rfl⟩
theorem zf_X11_31_10 : ZF "GrindWorksModel" 31 10 10 := ⟨_, _, rfl, by decide, Or.inl kw_629, Or.inl rfl⟩
theorem zf_X11_34_10 : ZF "GrindWorksModel" 34 10 11 := ⟨_, _, rfl, by decide, Or.inl kw_630, Or.inl rfl⟩
theorem zf_X11_37_10 : ZF "GrindWorksModel" 37 10 12 := ⟨_, _, rfl, by decide, Or.inl kw_631, Or.inl rfl⟩
theorem zf_X11_81_10 : ZF "GrindWorksModel" 81 10 26 := ⟨_, _, rfl, by decide, Or.inl kw_645, Or.inl rfl⟩
theorem zf_X11_19_10 : ZF "GrindWorksModel" 19 10 6 := ⟨_, _, rfl, by decide, Or.inl kw_625, Or.inl rfl⟩
theorem zf_X11_40_10 : ZF "GrindWorksModel" 40 10 13 := ⟨_, _, rfl, by decide, Or.inl kw_632, Or.inl rfl⟩
theorem zf_X11_43_10 : ZF "GrindWorksModel" 43 10 14 := ⟨_, _, rfl, by decide, Or.inl kw_633, Or.inl rfl⟩
theorem zf_X11_65_10 : ZF "GrindWorksModel" 65 10 21 := ⟨_, _, rfl, by decide, Or.inl kw_640, Or.inl rfl⟩
theorem zf_X11_68_10 : ZF "GrindWorksModel" 68 10 22 := ⟨_, _, rfl, by decide, Or.inl kw_641, Or.inl rfl⟩
theorem zf_X11_16_10 : ZF "GrindWorksModel" 16 10 5 := ⟨_, _, rfl, by decide, Or.inl kw_624, Or.inl rfl⟩
theorem zf_X11_28_10 : ZF "GrindWorksModel" 28 10 9 := ⟨_, _, rfl, by decide, Or.inl kw_628, Or.inl rfl⟩
theorem zf_X11_50_10 : ZF "GrindWorksModel" 50 10 16 := ⟨_, _, rfl, by decide, Or.inl kw_635, Or.inl rfl⟩
theorem zf_X11_53_10 : ZF "GrindWorksModel" 53 10 17 := ⟨_, _, rfl, by decide, Or.inl kw_636, Or.inl rfl⟩
theorem zf_X11_56_10 : ZF "GrindWorksModel" 56 10 18 := ⟨_, _, rfl, by decide, Or.inl kw_637, Or.inl rfl⟩
theorem zf_X11_62_10 : ZF "GrindWorksModel" 62 10 20 := ⟨_, _, rfl, by decide, Or.inl kw_639, Or.inl rfl⟩
theorem zf_X11_59_10 : ZF "GrindWorksModel" 59 10 19 := ⟨_, _, rfl, by decide, Or.inl kw_638, Or.inl rfl⟩
theorem zf_X11_72_10 : ZF "GrindWorksModel" 72 10 23 := ⟨_, _, rfl, by decide, Or.inl kw_642, Or.inl rfl⟩
theorem zf_X11_75_10 : ZF "GrindWorksModel" 75 10 24 := ⟨_, _, rfl, by decide, Or.inl kw_643, Or.inl rfl⟩
theorem zf_X11_162_10 : ZF "GrindWorksModel" 162 10 1 := ⟨_, _, rfl, by decide, Or.inl kw_620, Or.inl rfl⟩
theorem zp_X11_162_10 : ZFp "GrindWorksModel" 162 10 1 .int := ⟨_, _, rfl, by decide, kw_620, Or.inl rfl, rfl, by decide +kernel⟩
theorem zf_X11_78_10 : ZF "GrindWorksModel" 78 10 25 := ⟨_, _, rfl, by decide, Or.inl kw_644, Or.inl rfl⟩
theorem zf_X11_189_10 : ZF "GrindWorksModel" 189 10 2 := ⟨_, _, rfl, by decide, Or.inl kw_621, Or.inl rfl⟩
theorem zf_X11_84_10 : ZF "GrindWorksModel" 84 10 27 := ⟨_, _, rfl, by decide, Or.inl kw_646, Or.inl rfl⟩
theorem zf_X11_87_10 : ZF "GrindWorksModel" 87 10 28 := ⟨_, _, rfl, by decide, Or.inl kw_647, Or.inl rfl⟩
theorem zf_X11_90_10 : ZF "GrindWorksModel" 90 10 29 := ⟨_, _, rfl, by decide, Or.inl kw_648, Or.inl rfl⟩
theorem zp_X11_189_10 : ZFp "GrindWorksModel" 189 10 2 .int := ⟨_, _, rfl, by decide, kw_621, Or.inl rfl, rfl, by decide +kernel⟩
theorem zq_X0_11_0 : ZFf "GrindWorks$End" 11 0 7 (.array (.array .int)) := ⟨_, rfl, by decide, kw_237, rfl, rfl, by decide +kernel⟩
theorem zf_X0_16_0 : ZF "GrindWorks$End" 16 0 1 := ⟨_, _, rfl, by decide, Or.inl kw_102, Or.inr kw_103⟩
theorem zf_X0_11_0 : ZF "GrindWorks$End" 11 0 7 := ⟨_, _, rfl, by decide, Or.inl kw_237, Or.inl rfl⟩
theorem zq_X1_9_1 : ZFf "GrindWorks$Feed" 9 1 7 (.array .int) := ⟨_, rfl, by decide, kw_81, rfl, rfl, by decide +kernel⟩
theorem zp_X1_15_1 : ZFp "GrindWorks$Feed" 15 1 8 .boolean := ⟨_, _, rfl, by decide, kw_83, Or.inl rfl, rfl, by decide +kernel⟩
theorem zp_X1_19_1 : ZFp "GrindWorks$Feed" 19 1 9 .int := ⟨_, _, rfl, by decide, kw_85, Or.inl rfl, rfl, by decide +kernel⟩
theorem zp_X1_23_1 : ZFp "GrindWorks$Feed" 23 1 10 .int := ⟨_, _, rfl, by decide, kw_87, Or.inl rfl, rfl, by decide +kernel⟩
theorem zp_X1_26_1 : ZFp "GrindWorks$Feed" 26 1 11 .int := ⟨_, _, rfl, by decide, kw_88, Or.inl rfl, rfl, by decide +kernel⟩
theorem zf_X1_15_1 : ZF "GrindWorks$Feed" 15 1 8 := ⟨_, _, rfl, by decide, Or.inl kw_83, Or.inl rfl⟩
theorem zf_X1_29_1 : ZF "GrindWorks$Feed" 29 1 4 := ⟨_, _, rfl, by decide, Or.inl kw_118, Or.inr kw_119⟩
theorem zf_X1_39_1 : ZF "GrindWorks$Feed" 39 1 5 := ⟨_, _, rfl, by decide, Or.inl kw_128, Or.inr kw_129⟩
theorem zf_X1_9_1 : ZF "GrindWorks$Feed" 9 1 7 := ⟨_, _, rfl, by decide, Or.inl kw_81, Or.inl rfl⟩
theorem zf_X1_23_1 : ZF "GrindWorks$Feed" 23 1 10 := ⟨_, _, rfl, by decide, Or.inl kw_87, Or.inl rfl⟩
theorem zf_X1_26_1 : ZF "GrindWorks$Feed" 26 1 11 := ⟨_, _, rfl, by decide, Or.inl kw_88, Or.inl rfl⟩
theorem zf_X2_9_2 : ZF "GrindWorks$Join" 9 2 4 := ⟨_, _, rfl, by decide, Or.inl kw_112, Or.inr kw_113⟩
theorem zf_X2_21_2 : ZF "GrindWorks$Join" 21 2 1 := ⟨_, _, rfl, by decide, Or.inl kw_96, Or.inr kw_97⟩
theorem zq_X3_11_3 : ZFf "GrindWorks$Loads" 11 3 0 (.array .int) := ⟨_, rfl, by decide, kw_30, rfl, rfl, by decide +kernel⟩
theorem zq_X3_15_3 : ZFf "GrindWorks$Loads" 15 3 1 (.array .int) := ⟨_, rfl, by decide, kw_31, rfl, rfl, by decide +kernel⟩
theorem zq_X3_18_3 : ZFf "GrindWorks$Loads" 18 3 2 (.array .int) := ⟨_, rfl, by decide, kw_32, rfl, rfl, by decide +kernel⟩
theorem zp_X3_21_3 : ZFp "GrindWorks$Loads" 21 3 3 .int := ⟨_, _, rfl, by decide, kw_33, Or.inl rfl, rfl, by decide +kernel⟩
theorem zf_X3_21_3 : ZF "GrindWorks$Loads" 21 3 3 := ⟨_, _, rfl, by decide, Or.inl kw_33, Or.inl rfl⟩
theorem zf_X3_11_3 : ZF "GrindWorks$Loads" 11 3 0 := ⟨_, _, rfl, by decide, Or.inl kw_30, Or.inl rfl⟩
theorem zf_X3_15_3 : ZF "GrindWorks$Loads" 15 3 1 := ⟨_, _, rfl, by decide, Or.inl kw_31, Or.inl rfl⟩
theorem zf_X3_18_3 : ZF "GrindWorks$Loads" 18 3 2 := ⟨_, _, rfl, by decide, Or.inl kw_32, Or.inl rfl⟩
theorem zf_X4_9_4 : ZF "GrindWorks$Mill" 9 4 5 := ⟨_, _, rfl, by decide, Or.inl kw_125, Or.inr kw_126⟩
theorem zf_X4_23_4 : ZF "GrindWorks$Mill" 23 4 4 := ⟨_, _, rfl, by decide, Or.inl kw_122, Or.inr kw_123⟩
theorem zf_X4_33_4 : ZF "GrindWorks$Mill" 33 4 1 := ⟨_, _, rfl, by decide, Or.inl kw_104, Or.inr kw_105⟩
theorem zq_X5_9_5 : ZFf "GrindWorks$Parter" 9 5 7 (.array .int) := ⟨_, rfl, by decide, kw_183, rfl, rfl, by decide +kernel⟩
theorem zf_X5_15_5 : ZF "GrindWorks$Parter" 15 5 1 := ⟨_, _, rfl, by decide, Or.inl kw_94, Or.inr kw_95⟩
theorem zf_X5_9_5 : ZF "GrindWorks$Parter" 9 5 7 := ⟨_, _, rfl, by decide, Or.inl kw_183, Or.inl rfl⟩
theorem zf_X5_22_5 : ZF "GrindWorks$Parter" 22 5 4 := ⟨_, _, rfl, by decide, Or.inl kw_120, Or.inr kw_121⟩
theorem zf_X5_26_5 : ZF "GrindWorks$Parter" 26 5 5 := ⟨_, _, rfl, by decide, Or.inl kw_134, Or.inr kw_135⟩
theorem zf_X5_29_5 : ZF "GrindWorks$Parter" 29 5 0 := ⟨_, _, rfl, by decide, Or.inl kw_90, Or.inr kw_91⟩
theorem zq_X6_13_6 : ZFf "GrindWorks$Pile" 13 6 7 (.array (.array .int)) := ⟨_, rfl, by decide, kw_217, rfl, rfl, by decide +kernel⟩
theorem zp_X6_16_6 : ZFp "GrindWorks$Pile" 16 6 8 .int := ⟨_, _, rfl, by decide, kw_218, Or.inl rfl, rfl, by decide +kernel⟩
theorem zp_X6_20_6 : ZFp "GrindWorks$Pile" 20 6 9 .int := ⟨_, _, rfl, by decide, kw_219, Or.inl rfl, rfl, by decide +kernel⟩
theorem zf_X6_23_6 : ZF "GrindWorks$Pile" 23 6 4 := ⟨_, _, rfl, by decide, Or.inl kw_114, Or.inr kw_115⟩
theorem zf_X6_32_6 : ZF "GrindWorks$Pile" 32 6 1 := ⟨_, _, rfl, by decide, Or.inl kw_98, Or.inr kw_99⟩
theorem zf_X6_44_6 : ZF "GrindWorks$Pile" 44 6 5 := ⟨_, _, rfl, by decide, Or.inl kw_130, Or.inr kw_131⟩
theorem zf_X6_20_6 : ZF "GrindWorks$Pile" 20 6 9 := ⟨_, _, rfl, by decide, Or.inl kw_219, Or.inl rfl⟩
theorem zf_X6_13_6 : ZF "GrindWorks$Pile" 13 6 7 := ⟨_, _, rfl, by decide, Or.inl kw_217, Or.inl rfl⟩
theorem zf_X6_16_6 : ZF "GrindWorks$Pile" 16 6 8 := ⟨_, _, rfl, by decide, Or.inl kw_218, Or.inl rfl⟩
theorem zq_X7_13_7 : ZFf "GrindWorks$Readings" 13 7 0 (.array .int) := ⟨_, rfl, by decide, kw_77, rfl, rfl, by decide +kernel⟩
theorem zq_X7_19_7 : ZFf "GrindWorks$Readings" 19 7 1 (.array .int) := ⟨_, rfl, by decide, kw_78, rfl, rfl, by decide +kernel⟩
theorem zf_X7_19_7 : ZF "GrindWorks$Readings" 19 7 1 := ⟨_, _, rfl, by decide, Or.inl kw_78, Or.inl rfl⟩
theorem zf_X7_13_7 : ZF "GrindWorks$Readings" 13 7 0 := ⟨_, _, rfl, by decide, Or.inl kw_77, Or.inl rfl⟩
theorem zq_X8_13_8 : ZFf "GrindWorks$Tank" 13 8 7 (.array (.array .int)) := ⟨_, rfl, by decide, kw_199, rfl, rfl, by decide +kernel⟩
theorem zp_X8_16_8 : ZFp "GrindWorks$Tank" 16 8 8 .int := ⟨_, _, rfl, by decide, kw_200, Or.inl rfl, rfl, by decide +kernel⟩
theorem zf_X8_20_8 : ZF "GrindWorks$Tank" 20 8 4 := ⟨_, _, rfl, by decide, Or.inl kw_116, Or.inr kw_117⟩
theorem zf_X8_16_8 : ZF "GrindWorks$Tank" 16 8 8 := ⟨_, _, rfl, by decide, Or.inl kw_200, Or.inl rfl⟩
theorem zf_X8_29_8 : ZF "GrindWorks$Tank" 29 8 1 := ⟨_, _, rfl, by decide, Or.inl kw_100, Or.inr kw_101⟩
theorem zf_X8_13_8 : ZF "GrindWorks$Tank" 13 8 7 := ⟨_, _, rfl, by decide, Or.inl kw_199, Or.inl rfl⟩
theorem zf_X8_37_8 : ZF "GrindWorks$Tank" 37 8 5 := ⟨_, _, rfl, by decide, Or.inl kw_132, Or.inr kw_133⟩
theorem zq_X9_9_0 : ZFf "GrindWorks$Unit" 9 0 1 (.array .int) := ⟨_, rfl, by decide, kw_93, rfl, rfl, by decide +kernel⟩
theorem zq_X9_9_1 : ZFf "GrindWorks$Unit" 9 1 1 (.array .int) := ⟨_, rfl, by decide, kw_93, rfl, rfl, by decide +kernel⟩
theorem zq_X9_9_2 : ZFf "GrindWorks$Unit" 9 2 1 (.array .int) := ⟨_, rfl, by decide, kw_93, rfl, rfl, by decide +kernel⟩
theorem zq_X9_9_4 : ZFf "GrindWorks$Unit" 9 4 1 (.array .int) := ⟨_, rfl, by decide, kw_93, rfl, rfl, by decide +kernel⟩
theorem zq_X9_9_5 : ZFf "GrindWorks$Unit" 9 5 1 (.array .int) := ⟨_, rfl, by decide, kw_93, rfl, rfl, by decide +kernel⟩
theorem zq_X9_9_6 : ZFf "GrindWorks$Unit" 9 6 1 (.array .int) := ⟨_, rfl, by decide, kw_93, rfl, rfl, by decide +kernel⟩
theorem zq_X9_9_8 : ZFf "GrindWorks$Unit" 9 8 1 (.array .int) := ⟨_, rfl, by decide, kw_93, rfl, rfl, by decide +kernel⟩
theorem zq_X9_15_0 : ZFf "GrindWorks$Unit" 15 0 2 (.array .int) := ⟨_, rfl, by decide, kw_107, rfl, rfl, by decide +kernel⟩
theorem zq_X9_15_1 : ZFf "GrindWorks$Unit" 15 1 2 (.array .int) := ⟨_, rfl, by decide, kw_107, rfl, rfl, by decide +kernel⟩
theorem zq_X9_15_2 : ZFf "GrindWorks$Unit" 15 2 2 (.array .int) := ⟨_, rfl, by decide, kw_107, rfl, rfl, by decide +kernel⟩
theorem zq_X9_15_4 : ZFf "GrindWorks$Unit" 15 4 2 (.array .int) := ⟨_, rfl, by decide, kw_107, rfl, rfl, by decide +kernel⟩
theorem zq_X9_15_5 : ZFf "GrindWorks$Unit" 15 5 2 (.array .int) := ⟨_, rfl, by decide, kw_107, rfl, rfl, by decide +kernel⟩
theorem zq_X9_15_6 : ZFf "GrindWorks$Unit" 15 6 2 (.array .int) := ⟨_, rfl, by decide, kw_107, rfl, rfl, by decide +kernel⟩
theorem zq_X9_15_8 : ZFf "GrindWorks$Unit" 15 8 2 (.array .int) := ⟨_, rfl, by decide, kw_107, rfl, rfl, by decide +kernel⟩
theorem zq_X9_18_0 : ZFf "GrindWorks$Unit" 18 0 0 .int := ⟨_, rfl, by decide, kw_89, rfl, rfl, by decide +kernel⟩
theorem zq_X9_18_1 : ZFf "GrindWorks$Unit" 18 1 0 .int := ⟨_, rfl, by decide, kw_89, rfl, rfl, by decide +kernel⟩
theorem zq_X9_18_2 : ZFf "GrindWorks$Unit" 18 2 0 .int := ⟨_, rfl, by decide, kw_89, rfl, rfl, by decide +kernel⟩
theorem zq_X9_18_4 : ZFf "GrindWorks$Unit" 18 4 0 .int := ⟨_, rfl, by decide, kw_89, rfl, rfl, by decide +kernel⟩
theorem zq_X9_18_5 : ZFf "GrindWorks$Unit" 18 5 0 .int := ⟨_, rfl, by decide, kw_89, rfl, rfl, by decide +kernel⟩
theorem zq_X9_18_6 : ZFf "GrindWorks$Unit" 18 6 0 .int := ⟨_, rfl, by decide, kw_89, rfl, rfl, by decide +kernel⟩
theorem zq_X9_18_8 : ZFf "GrindWorks$Unit" 18 8 0 .int := ⟨_, rfl, by decide, kw_89, rfl, rfl, by decide +kernel⟩
theorem zq_X9_25_0 : ZFf "GrindWorks$Unit" 25 0 3 (.array .int) := ⟨_, rfl, by decide, kw_109, rfl, rfl, by decide +kernel⟩
theorem zq_X9_25_1 : ZFf "GrindWorks$Unit" 25 1 3 (.array .int) := ⟨_, rfl, by decide, kw_109, rfl, rfl, by decide +kernel⟩
theorem zq_X9_25_2 : ZFf "GrindWorks$Unit" 25 2 3 (.array .int) := ⟨_, rfl, by decide, kw_109, rfl, rfl, by decide +kernel⟩
theorem zq_X9_25_4 : ZFf "GrindWorks$Unit" 25 4 3 (.array .int) := ⟨_, rfl, by decide, kw_109, rfl, rfl, by decide +kernel⟩
theorem zq_X9_25_5 : ZFf "GrindWorks$Unit" 25 5 3 (.array .int) := ⟨_, rfl, by decide, kw_109, rfl, rfl, by decide +kernel⟩
theorem zq_X9_25_6 : ZFf "GrindWorks$Unit" 25 6 3 (.array .int) := ⟨_, rfl, by decide, kw_109, rfl, rfl, by decide +kernel⟩
theorem zq_X9_25_8 : ZFf "GrindWorks$Unit" 25 8 3 (.array .int) := ⟨_, rfl, by decide, kw_109, rfl, rfl, by decide +kernel⟩
theorem zf_X9_25_0 : ZF "GrindWorks$Unit" 25 0 3 := ⟨_, _, rfl, by decide, Or.inl kw_109, Or.inl rfl⟩
theorem zf_X9_25_1 : ZF "GrindWorks$Unit" 25 1 3 := ⟨_, _, rfl, by decide, Or.inl kw_109, Or.inl rfl⟩
theorem zf_X9_25_2 : ZF "GrindWorks$Unit" 25 2 3 := ⟨_, _, rfl, by decide, Or.inl kw_109, Or.inl rfl⟩
theorem zf_X9_25_4 : ZF "GrindWorks$Unit" 25 4 3 := ⟨_, _, rfl, by decide, Or.inl kw_109, Or.inl rfl⟩
theorem zf_X9_25_5 : ZF "GrindWorks$Unit" 25 5 3 := ⟨_, _, rfl, by decide, Or.inl kw_109, Or.inl rfl⟩
theorem zf_X9_25_6 : ZF "GrindWorks$Unit" 25 6 3 := ⟨_, _, rfl, by decide, Or.inl kw_109, Or.inl rfl⟩
theorem zf_X9_25_8 : ZF "GrindWorks$Unit" 25 8 3 := ⟨_, _, rfl, by decide, Or.inl kw_109, Or.inl rfl⟩
theorem zq_X9_36_0 : ZFf "GrindWorks$Unit" 36 0 4 (.array (.array .int)) := ⟨_, rfl, by decide, kw_111, rfl, rfl, by decide +kernel⟩
theorem zq_X9_36_1 : ZFf "GrindWorks$Unit" 36 1 4 (.array (.array .int)) := ⟨_, rfl, by decide, kw_111, rfl, rfl, by decide +kernel⟩
theorem zq_X9_36_2 : ZFf "GrindWorks$Unit" 36 2 4 (.array (.array .int)) := ⟨_, rfl, by decide, kw_111, rfl, rfl, by decide +kernel⟩
theorem zq_X9_36_4 : ZFf "GrindWorks$Unit" 36 4 4 (.array (.array .int)) := ⟨_, rfl, by decide, kw_111, rfl, rfl, by decide +kernel⟩
theorem zq_X9_36_5 : ZFf "GrindWorks$Unit" 36 5 4 (.array (.array .int)) := ⟨_, rfl, by decide, kw_111, rfl, rfl, by decide +kernel⟩
theorem zq_X9_36_6 : ZFf "GrindWorks$Unit" 36 6 4 (.array (.array .int)) := ⟨_, rfl, by decide, kw_111, rfl, rfl, by decide +kernel⟩
theorem zq_X9_36_8 : ZFf "GrindWorks$Unit" 36 8 4 (.array (.array .int)) := ⟨_, rfl, by decide, kw_111, rfl, rfl, by decide +kernel⟩
theorem zq_X9_42_0 : ZFf "GrindWorks$Unit" 42 0 5 (.array .int) := ⟨_, rfl, by decide, kw_127, rfl, rfl, by decide +kernel⟩
theorem zq_X9_42_1 : ZFf "GrindWorks$Unit" 42 1 5 (.array .int) := ⟨_, rfl, by decide, kw_127, rfl, rfl, by decide +kernel⟩
theorem zq_X9_42_2 : ZFf "GrindWorks$Unit" 42 2 5 (.array .int) := ⟨_, rfl, by decide, kw_127, rfl, rfl, by decide +kernel⟩
theorem zq_X9_42_4 : ZFf "GrindWorks$Unit" 42 4 5 (.array .int) := ⟨_, rfl, by decide, kw_127, rfl, rfl, by decide +kernel⟩
theorem zq_X9_42_5 : ZFf "GrindWorks$Unit" 42 5 5 (.array .int) := ⟨_, rfl, by decide, kw_127, rfl, rfl, by decide +kernel⟩
theorem zq_X9_42_6 : ZFf "GrindWorks$Unit" 42 6 5 (.array .int) := ⟨_, rfl, by decide, kw_127, rfl, rfl, by decide +kernel⟩
theorem zq_X9_42_8 : ZFf "GrindWorks$Unit" 42 8 5 (.array .int) := ⟨_, rfl, by decide, kw_127, rfl, rfl, by decide +kernel⟩
theorem zf_X9_42_0 : ZF "GrindWorks$Unit" 42 0 5 := ⟨_, _, rfl, by decide, Or.inl kw_127, Or.inl rfl⟩
theorem zf_X9_42_1 : ZF "GrindWorks$Unit" 42 1 5 := ⟨_, _, rfl, by decide, Or.inl kw_127, Or.inl rfl⟩
theorem zf_X9_42_2 : ZF "GrindWorks$Unit" 42 2 5 := ⟨_, _, rfl, by decide, Or.inl kw_127, Or.inl rfl⟩
theorem zf_X9_42_4 : ZF "GrindWorks$Unit" 42 4 5 := ⟨_, _, rfl, by decide, Or.inl kw_127, Or.inl rfl⟩
theorem zf_X9_42_5 : ZF "GrindWorks$Unit" 42 5 5 := ⟨_, _, rfl, by decide, Or.inl kw_127, Or.inl rfl⟩
theorem zf_X9_42_6 : ZF "GrindWorks$Unit" 42 6 5 := ⟨_, _, rfl, by decide, Or.inl kw_127, Or.inl rfl⟩
theorem zf_X9_42_8 : ZF "GrindWorks$Unit" 42 8 5 := ⟨_, _, rfl, by decide, Or.inl kw_127, Or.inl rfl⟩
theorem zq_X9_53_0 : ZFf "GrindWorks$Unit" 53 0 6 (.object "GrindWorks$Readings") := ⟨_, rfl, by decide, kw_137, rfl, rfl, by decide +kernel⟩
theorem zq_X9_53_1 : ZFf "GrindWorks$Unit" 53 1 6 (.object "GrindWorks$Readings") := ⟨_, rfl, by decide, kw_137, rfl, rfl, by decide +kernel⟩
theorem zq_X9_53_2 : ZFf "GrindWorks$Unit" 53 2 6 (.object "GrindWorks$Readings") := ⟨_, rfl, by decide, kw_137, rfl, rfl, by decide +kernel⟩
theorem zq_X9_53_4 : ZFf "GrindWorks$Unit" 53 4 6 (.object "GrindWorks$Readings") := ⟨_, rfl, by decide, kw_137, rfl, rfl, by decide +kernel⟩
theorem zq_X9_53_5 : ZFf "GrindWorks$Unit" 53 5 6 (.object "GrindWorks$Readings") := ⟨_, rfl, by decide, kw_137, rfl, rfl, by decide +kernel⟩
theorem zq_X9_53_6 : ZFf "GrindWorks$Unit" 53 6 6 (.object "GrindWorks$Readings") := ⟨_, rfl, by decide, kw_137, rfl, rfl, by decide +kernel⟩
theorem zq_X9_53_8 : ZFf "GrindWorks$Unit" 53 8 6 (.object "GrindWorks$Readings") := ⟨_, rfl, by decide, kw_137, rfl, rfl, by decide +kernel⟩
theorem zf_X9_9_0 : ZF "GrindWorks$Unit" 9 0 1 := ⟨_, _, rfl, by decide, Or.inl kw_93, Or.inl rfl⟩
theorem zf_X9_9_1 : ZF "GrindWorks$Unit" 9 1 1 := ⟨_, _, rfl, by decide, Or.inl kw_93, Or.inl rfl⟩
theorem zf_X9_9_2 : ZF "GrindWorks$Unit" 9 2 1 := ⟨_, _, rfl, by decide, Or.inl kw_93, Or.inl rfl⟩
theorem zf_X9_9_4 : ZF "GrindWorks$Unit" 9 4 1 := ⟨_, _, rfl, by decide, Or.inl kw_93, Or.inl rfl⟩
theorem zf_X9_9_5 : ZF "GrindWorks$Unit" 9 5 1 := ⟨_, _, rfl, by decide, Or.inl kw_93, Or.inl rfl⟩
theorem zf_X9_9_6 : ZF "GrindWorks$Unit" 9 6 1 := ⟨_, _, rfl, by decide, Or.inl kw_93, Or.inl rfl⟩
theorem zf_X9_9_8 : ZF "GrindWorks$Unit" 9 8 1 := ⟨_, _, rfl, by decide, Or.inl kw_93, Or.inl rfl⟩
theorem zf_X9_18_0 : ZF "GrindWorks$Unit" 18 0 0 := ⟨_, _, rfl, by decide, Or.inl kw_89, Or.inl rfl⟩
theorem zf_X9_18_1 : ZF "GrindWorks$Unit" 18 1 0 := ⟨_, _, rfl, by decide, Or.inl kw_89, Or.inl rfl⟩
theorem zf_X9_18_2 : ZF "GrindWorks$Unit" 18 2 0 := ⟨_, _, rfl, by decide, Or.inl kw_89, Or.inl rfl⟩
theorem zf_X9_18_4 : ZF "GrindWorks$Unit" 18 4 0 := ⟨_, _, rfl, by decide, Or.inl kw_89, Or.inl rfl⟩
theorem zf_X9_18_5 : ZF "GrindWorks$Unit" 18 5 0 := ⟨_, _, rfl, by decide, Or.inl kw_89, Or.inl rfl⟩
theorem zf_X9_18_6 : ZF "GrindWorks$Unit" 18 6 0 := ⟨_, _, rfl, by decide, Or.inl kw_89, Or.inl rfl⟩
theorem zf_X9_18_8 : ZF "GrindWorks$Unit" 18 8 0 := ⟨_, _, rfl, by decide, Or.inl kw_89, Or.inl rfl⟩
theorem zf_X9_36_0 : ZF "GrindWorks$Unit" 36 0 4 := ⟨_, _, rfl, by decide, Or.inl kw_111, Or.inl rfl⟩
theorem zf_X9_36_1 : ZF "GrindWorks$Unit" 36 1 4 := ⟨_, _, rfl, by decide, Or.inl kw_111, Or.inl rfl⟩
theorem zf_X9_36_2 : ZF "GrindWorks$Unit" 36 2 4 := ⟨_, _, rfl, by decide, Or.inl kw_111, Or.inl rfl⟩
theorem zf_X9_36_4 : ZF "GrindWorks$Unit" 36 4 4 := ⟨_, _, rfl, by decide, Or.inl kw_111, Or.inl rfl⟩
theorem zf_X9_36_5 : ZF "GrindWorks$Unit" 36 5 4 := ⟨_, _, rfl, by decide, Or.inl kw_111, Or.inl rfl⟩
theorem zf_X9_36_6 : ZF "GrindWorks$Unit" 36 6 4 := ⟨_, _, rfl, by decide, Or.inl kw_111, Or.inl rfl⟩
theorem zf_X9_36_8 : ZF "GrindWorks$Unit" 36 8 4 := ⟨_, _, rfl, by decide, Or.inl kw_111, Or.inl rfl⟩
