theorem pd_yX7_init : gw_pd yX7_init RX7 0 := ⟨rfl, by decide +kernel, by decide +kernel, by decide +kernel⟩
theorem pd_yX5_init : gw_pd yX5_init RX5 0 := ⟨rfl, by decide +kernel, by decide +kernel, by decide +kernel⟩
theorem pd_yX2_init : gw_pd yX2_init RX2 1 := ⟨rfl, by decide +kernel, by decide +kernel, by decide +kernel⟩
theorem pd_yX1_init : gw_pd yX1_init RX1 0 := ⟨rfl, by decide +kernel, by decide +kernel, by decide +kernel⟩
theorem pd_yX6_init : gw_pd yX6_init RX6 4 := ⟨rfl, by decide +kernel, by decide +kernel, by decide +kernel⟩
theorem pd_yX4_init : gw_pd yX4_init RX4 1 := ⟨rfl, by decide +kernel, by decide +kernel, by decide +kernel⟩
theorem pd_yX0_init : gw_pd yX0_init RX0 0 := ⟨rfl, by decide +kernel, by decide +kernel, by decide +kernel⟩
theorem pd_yX3_init : gw_pd yX3_init RX3 0 := ⟨rfl, by decide +kernel, by decide +kernel, by decide +kernel⟩
theorem pd_yX7_count : gw_pd yX7_count RX7 1 := ⟨rfl, by decide +kernel, by decide +kernel, by decide +kernel⟩
theorem pd_yX4_stuckBits : gw_pd yX4_stuckBits RX4 0 := ⟨rfl, by decide +kernel, by decide +kernel, by decide +kernel⟩
theorem pd_yX4_isStuck : gw_pd yX4_isStuck RX4 1 := ⟨rfl, by decide +kernel, by decide +kernel, by decide +kernel⟩
theorem pd_yX4_minded : gw_pd yX4_minded RX4 1 := ⟨rfl, by decide +kernel, by decide +kernel, by decide +kernel⟩
theorem pd_yX6_says : gw_pd yX6_says RX6 3 := ⟨rfl, by decide +kernel, by decide +kernel, by decide +kernel⟩
theorem pd_yX1_lay : gw_pd yX1_lay RX1 1 := ⟨rfl, by decide +kernel, by decide +kernel, by decide +kernel⟩
theorem pd_yX6_named : gw_pd yX6_named RX6 3 := ⟨rfl, by decide +kernel, by decide +kernel, by decide +kernel⟩
theorem pd_yJ6_bitCount_0f7a4 : gw_pd yJ6_bitCount_0f7a4 RJ6 1 := ⟨rfl, by decide +kernel, by decide +kernel, by decide +kernel⟩
theorem pd_yX1_lift : gw_pd yX1_lift RX1 0 := ⟨rfl, by decide +kernel, by decide +kernel, by decide +kernel⟩
theorem pd_yX6_joined : gw_pd yX6_joined RX6 3 := ⟨rfl, by decide +kernel, by decide +kernel, by decide +kernel⟩
theorem pd_yJ9_min_7cf53 : gw_pd yJ9_min_7cf53 RJ9 2 := ⟨rfl, by decide +kernel, by decide +kernel, by decide +kernel⟩
theorem pd_yJ9_max_7cf53 : gw_pd yJ9_max_7cf53 RJ9 2 := ⟨rfl, by decide +kernel, by decide +kernel, by decide +kernel⟩
theorem pd_yX4_mindedByBred : gw_pd yX4_mindedByBred RX4 2 := ⟨rfl, by decide +kernel, by decide +kernel, by decide +kernel⟩
theorem pd_yX4_mindedByHungry : gw_pd yX4_mindedByHungry RX4 2 := ⟨rfl, by decide +kernel, by decide +kernel, by decide +kernel⟩
theorem pd_yX7_clock : gw_pd yX7_clock RX7 1 := ⟨rfl, by decide +kernel, by decide +kernel, by decide +kernel⟩
theorem pd_yX7_feed : gw_pd yX7_feed RX7 6 := ⟨rfl, by decide +kernel, by decide +kernel, by decide +kernel⟩
theorem pd_yX7_isByte : gw_pd yX7_isByte RX7 1 := ⟨rfl, by decide +kernel, by decide +kernel, by decide +kernel⟩
theorem pd_yX5_add : gw_pd yX5_add RX5 1 := ⟨rfl, by decide +kernel, by decide +kernel, by decide +kernel⟩
theorem pd_yX7_text : gw_pd yX7_text RX7 0 := ⟨rfl, by decide +kernel, by decide +kernel, by decide +kernel⟩
theorem pd_yX2_faultPlace : gw_pd yX2_faultPlace RX2 0 := ⟨rfl, by decide +kernel, by decide +kernel, by decide +kernel⟩
theorem pd_yX5_start : gw_pd yX5_start RX5 0 := ⟨rfl, by decide +kernel, by decide +kernel, by decide +kernel⟩
theorem pd_yX5_next : gw_pd yX5_next RX5 0 := ⟨rfl, by decide +kernel, by decide +kernel, by decide +kernel⟩
theorem pd_yX5_isLetter : gw_pd yX5_isLetter RX5 1 := ⟨rfl, by decide +kernel, by decide +kernel, by decide +kernel⟩
theorem pd_yX5_wordToken : gw_pd yX5_wordToken RX5 0 := ⟨rfl, by decide +kernel, by decide +kernel, by decide +kernel⟩
theorem pd_yX5_spells : gw_pd yX5_spells RX5 1 := ⟨rfl, by decide +kernel, by decide +kernel, by decide +kernel⟩
theorem pd_yJ0_length_8abf5 : gw_pd yJ0_length_8abf5 RJ0 0 := ⟨rfl, by decide +kernel, by decide +kernel, by decide +kernel⟩
theorem pd_yJ0_coder_7d493 : gw_pd yJ0_coder_7d493 RJ0 0 := ⟨rfl, by decide +kernel, by decide +kernel, by decide +kernel⟩
theorem pd_yJ0_charAt_5068e : gw_pd yJ0_charAt_5068e RJ0 1 := ⟨rfl, by decide +kernel, by decide +kernel, by decide +kernel⟩
theorem pd_yJ0_isLatin1_aae02 : gw_pd yJ0_isLatin1_aae02 RJ0 0 := ⟨rfl, by decide +kernel, by decide +kernel, by decide +kernel⟩
theorem pd_yJ1_charAt_3b067 : gw_pd yJ1_charAt_3b067 RJ1 2 := ⟨rfl, by decide +kernel, by decide +kernel, by decide +kernel⟩
theorem pd_yJ0_checkIndex_df160 : gw_pd yJ0_checkIndex_df160 RJ0 2 := ⟨rfl, by decide +kernel, by decide +kernel, by decide +kernel⟩
theorem pd_yJ3_checkIndex_8e157 : gw_pd yJ3_checkIndex_8e157 RJ3 3 := ⟨rfl, by decide +kernel, by decide +kernel, by decide +kernel⟩
theorem pd_yJ2_charAt_3b067 : gw_pd yJ2_charAt_3b067 RJ2 2 := ⟨rfl, by decide +kernel, by decide +kernel, by decide +kernel⟩
theorem pd_yJ2_checkIndex_2214a : gw_pd yJ2_checkIndex_2214a RJ2 2 := ⟨rfl, by decide +kernel, by decide +kernel, by decide +kernel⟩
theorem pd_yJ2_length_9d52b : gw_pd yJ2_length_9d52b RJ2 1 := ⟨rfl, by decide +kernel, by decide +kernel, by decide +kernel⟩
theorem pd_yJ2_getChar_3b067 : gw_pd yJ2_getChar_3b067 RJ2 2 := ⟨rfl, by decide +kernel, by decide +kernel, by decide +kernel⟩
theorem pd_yX5_isDigit : gw_pd yX5_isDigit RX5 1 := ⟨rfl, by decide +kernel, by decide +kernel, by decide +kernel⟩
theorem pd_yX5_numberToken : gw_pd yX5_numberToken RX5 0 := ⟨rfl, by decide +kernel, by decide +kernel, by decide +kernel⟩
theorem pd_yX5_signToken : gw_pd yX5_signToken RX5 1 := ⟨rfl, by decide +kernel, by decide +kernel, by decide +kernel⟩
theorem pd_yX2_readPart : gw_pd yX2_readPart RX2 2 := ⟨rfl, by decide +kernel, by decide +kernel, by decide +kernel⟩
theorem pd_yX2_readToken : gw_pd yX2_readToken RX2 1 := ⟨rfl, by decide +kernel, by decide +kernel, by decide +kernel⟩
theorem pd_yX2_readOr : gw_pd yX2_readOr RX2 1 := ⟨rfl, by decide +kernel, by decide +kernel, by decide +kernel⟩
theorem pd_yX2_readAnd : gw_pd yX2_readAnd RX2 1 := ⟨rfl, by decide +kernel, by decide +kernel, by decide +kernel⟩
theorem pd_yX2_readNot : gw_pd yX2_readNot RX2 1 := ⟨rfl, by decide +kernel, by decide +kernel, by decide +kernel⟩
theorem pd_yX2_write : gw_pd yX2_write RX2 1 := ⟨rfl, by decide +kernel, by decide +kernel, by decide +kernel⟩
theorem pd_yX2_readSum : gw_pd yX2_readSum RX2 1 := ⟨rfl, by decide +kernel, by decide +kernel, by decide +kernel⟩
theorem pd_yX2_readTerm : gw_pd yX2_readTerm RX2 1 := ⟨rfl, by decide +kernel, by decide +kernel, by decide +kernel⟩
theorem pd_yX2_readOne : gw_pd yX2_readOne RX2 1 := ⟨rfl, by decide +kernel, by decide +kernel, by decide +kernel⟩
theorem pd_yJ7_copyOf_59c91 : gw_pd yJ7_copyOf_59c91 RJ7 2 := ⟨rfl, by decide +kernel, by decide +kernel, by decide +kernel⟩
theorem pd_yX7_force : gw_pd yX7_force RX7 1 := ⟨rfl, by decide +kernel, by decide +kernel, by decide +kernel⟩
theorem pd_yX7_asks : gw_pd yX7_asks RX7 2 := ⟨rfl, by decide +kernel, by decide +kernel, by decide +kernel⟩
theorem pd_yX4_seatsOne : gw_pd yX4_seatsOne RX4 1 := ⟨rfl, by decide +kernel, by decide +kernel, by decide +kernel⟩
theorem pd_yX7_guest : gw_pd yX7_guest RX7 3 := ⟨rfl, by decide +kernel, by decide +kernel, by decide +kernel⟩
theorem pd_yX0_come : gw_pd yX0_come RX0 3 := ⟨rfl, by decide +kernel, by decide +kernel, by decide +kernel⟩
theorem pd_yX7_put : gw_pd yX7_put RX7 3 := ⟨rfl, by decide +kernel, by decide +kernel, by decide +kernel⟩
theorem pd_yX7_mostOf : gw_pd yX7_mostOf RX7 1 := ⟨rfl, by decide +kernel, by decide +kernel, by decide +kernel⟩
theorem pd_yX0_stateOf : gw_pd yX0_stateOf RX0 1 := ⟨rfl, by decide +kernel, by decide +kernel, by decide +kernel⟩
theorem pd_yX0_setState : gw_pd yX0_setState RX0 2 := ⟨rfl, by decide +kernel, by decide +kernel, by decide +kernel⟩
theorem pd_yX7_told : gw_pd yX7_told RX7 2 := ⟨rfl, by decide +kernel, by decide +kernel, by decide +kernel⟩
theorem pd_yX4_actOf : gw_pd yX4_actOf RX4 1 := ⟨rfl, by decide +kernel, by decide +kernel, by decide +kernel⟩
theorem pd_yX7_holds : gw_pd yX7_holds RX7 2 := ⟨rfl, by decide +kernel, by decide +kernel, by decide +kernel⟩
theorem pd_yX4_toldBy : gw_pd yX4_toldBy RX4 1 := ⟨rfl, by decide +kernel, by decide +kernel, by decide +kernel⟩
theorem pd_yJ9_floorMod_7cf53 : gw_pd yJ9_floorMod_7cf53 RJ9 2 := ⟨rfl, by decide +kernel, by decide +kernel, by decide +kernel⟩
theorem pd_yX7_manners : gw_pd yX7_manners RX7 3 := ⟨rfl, by decide +kernel, by decide +kernel, by decide +kernel⟩
theorem pd_yX4_eatenBy : gw_pd yX4_eatenBy RX4 2 := ⟨rfl, by decide +kernel, by decide +kernel, by decide +kernel⟩
theorem pd_yX7_dinner : gw_pd yX7_dinner RX7 1 := ⟨rfl, by decide +kernel, by decide +kernel, by decide +kernel⟩
theorem pd_yX4_dangerBits : gw_pd yX4_dangerBits RX4 0 := ⟨rfl, by decide +kernel, by decide +kernel, by decide +kernel⟩
theorem pd_yX4_rightForAnybody : gw_pd yX4_rightForAnybody RX4 0 := ⟨rfl, by decide +kernel, by decide +kernel, by decide +kernel⟩
theorem pd_yX4_rightForAll : gw_pd yX4_rightForAll RX4 0 := ⟨rfl, by decide +kernel, by decide +kernel, by decide +kernel⟩
theorem pd_yX4_ateTogether : gw_pd yX4_ateTogether RX4 0 := ⟨rfl, by decide +kernel, by decide +kernel, by decide +kernel⟩
theorem pd_yX7_minute : gw_pd yX7_minute RX7 0 := ⟨rfl, by decide +kernel, by decide +kernel, by decide +kernel⟩
theorem pd_yX4_pass : gw_pd yX4_pass RX4 0 := ⟨rfl, by decide +kernel, by decide +kernel, by decide +kernel⟩
theorem pd_yX4_perform : gw_pd yX4_perform RX4 2 := ⟨rfl, by decide +kernel, by decide +kernel, by decide +kernel⟩
theorem pd_yX7_act : gw_pd yX7_act RX7 1 := ⟨rfl, by decide +kernel, by decide +kernel, by decide +kernel⟩
theorem pd_yX7_swap : gw_pd yX7_swap RX7 2 := ⟨rfl, by decide +kernel, by decide +kernel, by decide +kernel⟩
theorem pd_yX4_exchange : gw_pd yX4_exchange RX4 2 := ⟨rfl, by decide +kernel, by decide +kernel, by decide +kernel⟩
theorem pd_yX7_run : gw_pd yX7_run RX7 2 := ⟨rfl, by decide +kernel, by decide +kernel, by decide +kernel⟩
theorem pd_yX7_isRun : gw_pd yX7_isRun RX7 1 := ⟨rfl, by decide +kernel, by decide +kernel, by decide +kernel⟩
theorem pd_yX7_think : gw_pd yX7_think RX7 0 := ⟨rfl, by decide +kernel, by decide +kernel, by decide +kernel⟩
theorem pd_yX4_become : gw_pd yX4_become RX4 1 := ⟨rfl, by decide +kernel, by decide +kernel, by decide +kernel⟩
theorem pd_yX0_become : gw_pd yX0_become RX0 1 := ⟨rfl, by decide +kernel, by decide +kernel, by decide +kernel⟩
theorem pd_yX7_when : gw_pd yX7_when RX7 1 := ⟨rfl, by decide +kernel, by decide +kernel, by decide +kernel⟩
theorem pd_yX7_poker : gw_pd yX7_poker RX7 2 := ⟨rfl, by decide +kernel, by decide +kernel, by decide +kernel⟩
theorem pd_yX7_isChoice : gw_pd yX7_isChoice RX7 1 := ⟨rfl, by decide +kernel, by decide +kernel, by decide +kernel⟩
theorem pd_yX4_stuckBehind : gw_pd yX4_stuckBehind RX4 1 := ⟨rfl, by decide +kernel, by decide +kernel, by decide +kernel⟩
theorem pd_yX4_makeRight : gw_pd yX4_makeRight RX4 1 := ⟨rfl, by decide +kernel, by decide +kernel, by decide +kernel⟩
theorem pd_yX7_forgive : gw_pd yX7_forgive RX7 2 := ⟨rfl, by decide +kernel, by decide +kernel, by decide +kernel⟩
theorem pd_yX7_alarm : gw_pd yX7_alarm RX7 2 := ⟨rfl, by decide +kernel, by decide +kernel, by decide +kernel⟩
theorem pd_yX4_ateBehind : gw_pd yX4_ateBehind RX4 1 := ⟨rfl, by decide +kernel, by decide +kernel, by decide +kernel⟩
theorem pd_yX7_change : gw_pd yX7_change RX7 2 := ⟨rfl, by decide +kernel, by decide +kernel, by decide +kernel⟩
theorem pd_yX7_bold : gw_pd yX7_bold RX7 1 := ⟨rfl, by decide +kernel, by decide +kernel, by decide +kernel⟩
theorem pd_yX7_mean : gw_pd yX7_mean RX7 1 := ⟨rfl, by decide +kernel, by decide +kernel, by decide +kernel⟩
theorem pd_yX4_boredTogether : gw_pd yX4_boredTogether RX4 0 := ⟨rfl, by decide +kernel, by decide +kernel, by decide +kernel⟩
theorem pd_yX7_partOfFraction : gw_pd yX7_partOfFraction RX7 3 := ⟨rfl, by decide +kernel, by decide +kernel, by decide +kernel⟩
theorem pd_yX7_judge : gw_pd yX7_judge RX7 1 := ⟨rfl, by decide +kernel, by decide +kernel, by decide +kernel⟩
theorem pd_yX7_refusalOfTale : gw_pd yX7_refusalOfTale RX7 1 := ⟨rfl, by decide +kernel, by decide +kernel, by decide +kernel⟩
theorem pd_yX7_isSheet : gw_pd yX7_isSheet RX7 1 := ⟨rfl, by decide +kernel, by decide +kernel, by decide +kernel⟩
theorem pd_yX7_firstOther : gw_pd yX7_firstOther RX7 1 := ⟨rfl, by decide +kernel, by decide +kernel, by decide +kernel⟩
theorem pd_yX7_kinds : gw_pd yX7_kinds RX7 3 := ⟨rfl, by decide +kernel, by decide +kernel, by decide +kernel⟩
theorem pd_yX7_turned : gw_pd yX7_turned RX7 2 := ⟨rfl, by decide +kernel, by decide +kernel, by decide +kernel⟩
theorem pd_yX7_states : gw_pd yX7_states RX7 4 := ⟨rfl, by decide +kernel, by decide +kernel, by decide +kernel⟩
theorem pd_yX7_feared : gw_pd yX7_feared RX7 1 := ⟨rfl, by decide +kernel, by decide +kernel, by decide +kernel⟩
theorem pd_yX7_laws : gw_pd yX7_laws RX7 1 := ⟨rfl, by decide +kernel, by decide +kernel, by decide +kernel⟩
theorem pd_yX7_film : gw_pd yX7_film RX7 2 := ⟨rfl, by decide +kernel, by decide +kernel, by decide +kernel⟩
theorem pd_yX3_become : gw_pd yX3_become RX3 2 := ⟨rfl, by decide +kernel, by decide +kernel, by decide +kernel⟩
theorem pd_yJ7_fill_53178 : gw_pd yJ7_fill_53178 RJ7 2 := ⟨rfl, by decide +kernel, by decide +kernel, by decide +kernel⟩
theorem pd_yX3_set : gw_pd yX3_set RX3 2 := ⟨rfl, by decide +kernel, by decide +kernel, by decide +kernel⟩
theorem pd_yX7_drawn : gw_pd yX7_drawn RX7 2 := ⟨rfl, by decide +kernel, by decide +kernel, by decide +kernel⟩
theorem pd_yX7_isSeed : gw_pd yX7_isSeed RX7 1 := ⟨rfl, by decide +kernel, by decide +kernel, by decide +kernel⟩
theorem pd_yX7_actsByLots : gw_pd yX7_actsByLots RX7 1 := ⟨rfl, by decide +kernel, by decide +kernel, by decide +kernel⟩
theorem pd_yX7_odds : gw_pd yX7_odds RX7 4 := ⟨rfl, by decide +kernel, by decide +kernel, by decide +kernel⟩
theorem pd_yX7_image : gw_pd yX7_image RX7 0 := ⟨rfl, by decide +kernel, by decide +kernel, by decide +kernel⟩
theorem pd_yX7_back : gw_pd yX7_back RX7 0 := ⟨rfl, by decide +kernel, by decide +kernel, by decide +kernel⟩
theorem pd_yX7_sheet : gw_pd yX7_sheet RX7 3 := ⟨rfl, by decide +kernel, by decide +kernel, by decide +kernel⟩
theorem pd_yX7_cell : gw_pd yX7_cell RX7 3 := ⟨rfl, by decide +kernel, by decide +kernel, by decide +kernel⟩
theorem pd_yX7_copy : gw_pd yX7_copy RX7 5 := ⟨rfl, by decide +kernel, by decide +kernel, by decide +kernel⟩
theorem pd_yX7_guestsBy : gw_pd yX7_guestsBy RX7 4 := ⟨rfl, by decide +kernel, by decide +kernel, by decide +kernel⟩
theorem pd_yX7_taken : gw_pd yX7_taken RX7 2 := ⟨rfl, by decide +kernel, by decide +kernel, by decide +kernel⟩
theorem pd_yX7_isOfKind : gw_pd yX7_isOfKind RX7 2 := ⟨rfl, by decide +kernel, by decide +kernel, by decide +kernel⟩
theorem pd_yX8_init : gw_pd yX8_init RX8 0 := ⟨rfl, by decide +kernel, by decide +kernel, by decide +kernel⟩
theorem pd_yX8_text : gw_pd yX8_text RX8 0 := ⟨rfl, by decide +kernel, by decide +kernel, by decide +kernel⟩
theorem pd_yX8_next : gw_pd yX8_next RX8 0 := ⟨rfl, by decide +kernel, by decide +kernel, by decide +kernel⟩
theorem pd_yX8_in : gw_pd yX8_in RX8 3 := ⟨rfl, by decide +kernel, by decide +kernel, by decide +kernel⟩
theorem pd_yX8_wordFrom : gw_pd yX8_wordFrom RX8 2 := ⟨rfl, by decide +kernel, by decide +kernel, by decide +kernel⟩
theorem pd_yX8_eRead : gw_pd yX8_eRead RX8 0 := ⟨rfl, by decide +kernel, by decide +kernel, by decide +kernel⟩
theorem pd_yX8_puts : gw_pd yX8_puts RX8 1 := ⟨rfl, by decide +kernel, by decide +kernel, by decide +kernel⟩
theorem pd_yX8_unwinds : gw_pd yX8_unwinds RX8 1 := ⟨rfl, by decide +kernel, by decide +kernel, by decide +kernel⟩
theorem pd_yX8_rank : gw_pd yX8_rank RX8 1 := ⟨rfl, by decide +kernel, by decide +kernel, by decide +kernel⟩
theorem pd_yX8_opensOne : gw_pd yX8_opensOne RX8 1 := ⟨rfl, by decide +kernel, by decide +kernel, by decide +kernel⟩
theorem pd_yX8_holds : gw_pd yX8_holds RX8 1 := ⟨rfl, by decide +kernel, by decide +kernel, by decide +kernel⟩
theorem pd_yX8_signOf : gw_pd yX8_signOf RX8 0 := ⟨rfl, by decide +kernel, by decide +kernel, by decide +kernel⟩
theorem pd_yX8_between : gw_pd yX8_between RX8 1 := ⟨rfl, by decide +kernel, by decide +kernel, by decide +kernel⟩
theorem pd_yX8_count : gw_pd yX8_count RX8 1 := ⟨rfl, by decide +kernel, by decide +kernel, by decide +kernel⟩
theorem pd_yX8_stuckSet : gw_pd yX8_stuckSet RX8 0 := ⟨rfl, by decide +kernel, by decide +kernel, by decide +kernel⟩
theorem pd_yX8_isStuck : gw_pd yX8_isStuck RX8 1 := ⟨rfl, by decide +kernel, by decide +kernel, by decide +kernel⟩
theorem pd_yX8_actOf : gw_pd yX8_actOf RX8 1 := ⟨rfl, by decide +kernel, by decide +kernel, by decide +kernel⟩
theorem pd_yX8_mindSet : gw_pd yX8_mindSet RX8 1 := ⟨rfl, by decide +kernel, by decide +kernel, by decide +kernel⟩
theorem pd_yX8_asksOf : gw_pd yX8_asksOf RX8 2 := ⟨rfl, by decide +kernel, by decide +kernel, by decide +kernel⟩
theorem pd_yX8_onesOf : gw_pd yX8_onesOf RX8 1 := ⟨rfl, by decide +kernel, by decide +kernel, by decide +kernel⟩
theorem pd_yX8_says : gw_pd yX8_says RX8 1 := ⟨rfl, by decide +kernel, by decide +kernel, by decide +kernel⟩
theorem pd_yX8_two : gw_pd yX8_two RX8 3 := ⟨rfl, by decide +kernel, by decide +kernel, by decide +kernel⟩
theorem pd_yX8_within : gw_pd yX8_within RX8 3 := ⟨rfl, by decide +kernel, by decide +kernel, by decide +kernel⟩
theorem pd_yX8_clock : gw_pd yX8_clock RX8 1 := ⟨rfl, by decide +kernel, by decide +kernel, by decide +kernel⟩
theorem pd_yX8_feed : gw_pd yX8_feed RX8 6 := ⟨rfl, by decide +kernel, by decide +kernel, by decide +kernel⟩
theorem pd_yX8_isByte : gw_pd yX8_isByte RX8 1 := ⟨rfl, by decide +kernel, by decide +kernel, by decide +kernel⟩
theorem pd_yX8_force : gw_pd yX8_force RX8 1 := ⟨rfl, by decide +kernel, by decide +kernel, by decide +kernel⟩
theorem pd_yX8_asks : gw_pd yX8_asks RX8 2 := ⟨rfl, by decide +kernel, by decide +kernel, by decide +kernel⟩
theorem pd_yX8_isOne : gw_pd yX8_isOne RX8 1 := ⟨rfl, by decide +kernel, by decide +kernel, by decide +kernel⟩
theorem pd_yX8_guest : gw_pd yX8_guest RX8 3 := ⟨rfl, by decide +kernel, by decide +kernel, by decide +kernel⟩
theorem pd_yX8_put : gw_pd yX8_put RX8 3 := ⟨rfl, by decide +kernel, by decide +kernel, by decide +kernel⟩
theorem pd_yX8_told : gw_pd yX8_told RX8 2 := ⟨rfl, by decide +kernel, by decide +kernel, by decide +kernel⟩
theorem pd_yX8_tellsOf : gw_pd yX8_tellsOf RX8 1 := ⟨rfl, by decide +kernel, by decide +kernel, by decide +kernel⟩
theorem pd_yX8_manners : gw_pd yX8_manners RX8 3 := ⟨rfl, by decide +kernel, by decide +kernel, by decide +kernel⟩
theorem pd_yX8_eatsOf : gw_pd yX8_eatsOf RX8 2 := ⟨rfl, by decide +kernel, by decide +kernel, by decide +kernel⟩
theorem pd_yX8_dinner : gw_pd yX8_dinner RX8 1 := ⟨rfl, by decide +kernel, by decide +kernel, by decide +kernel⟩
theorem pd_yX8_ateAll : gw_pd yX8_ateAll RX8 0 := ⟨rfl, by decide +kernel, by decide +kernel, by decide +kernel⟩
theorem pd_yX8_minute : gw_pd yX8_minute RX8 0 := ⟨rfl, by decide +kernel, by decide +kernel, by decide +kernel⟩
theorem pd_yX8_minuteOf : gw_pd yX8_minuteOf RX8 0 := ⟨rfl, by decide +kernel, by decide +kernel, by decide +kernel⟩
theorem pd_yX8_doesAct : gw_pd yX8_doesAct RX8 1 := ⟨rfl, by decide +kernel, by decide +kernel, by decide +kernel⟩
theorem pd_yX8_act : gw_pd yX8_act RX8 1 := ⟨rfl, by decide +kernel, by decide +kernel, by decide +kernel⟩
theorem pd_yX8_swap : gw_pd yX8_swap RX8 2 := ⟨rfl, by decide +kernel, by decide +kernel, by decide +kernel⟩
theorem pd_yX8_changes : gw_pd yX8_changes RX8 2 := ⟨rfl, by decide +kernel, by decide +kernel, by decide +kernel⟩
theorem pd_yX8_run : gw_pd yX8_run RX8 2 := ⟨rfl, by decide +kernel, by decide +kernel, by decide +kernel⟩
theorem pd_yX8_keeps : gw_pd yX8_keeps RX8 0 := ⟨rfl, by decide +kernel, by decide +kernel, by decide +kernel⟩
theorem pd_yX8_passes : gw_pd yX8_passes RX8 1 := ⟨rfl, by decide +kernel, by decide +kernel, by decide +kernel⟩
theorem pd_yX8_lays : gw_pd yX8_lays RX8 0 := ⟨rfl, by decide +kernel, by decide +kernel, by decide +kernel⟩
theorem pd_yX8_when : gw_pd yX8_when RX8 1 := ⟨rfl, by decide +kernel, by decide +kernel, by decide +kernel⟩
theorem pd_yX8_poker : gw_pd yX8_poker RX8 2 := ⟨rfl, by decide +kernel, by decide +kernel, by decide +kernel⟩
theorem pd_yX8_stuckBehind : gw_pd yX8_stuckBehind RX8 1 := ⟨rfl, by decide +kernel, by decide +kernel, by decide +kernel⟩
theorem pd_yX8_forgive : gw_pd yX8_forgive RX8 2 := ⟨rfl, by decide +kernel, by decide +kernel, by decide +kernel⟩
theorem pd_yX8_alarm : gw_pd yX8_alarm RX8 2 := ⟨rfl, by decide +kernel, by decide +kernel, by decide +kernel⟩
theorem pd_yX8_ateBehind : gw_pd yX8_ateBehind RX8 1 := ⟨rfl, by decide +kernel, by decide +kernel, by decide +kernel⟩
theorem pd_yX8_change : gw_pd yX8_change RX8 2 := ⟨rfl, by decide +kernel, by decide +kernel, by decide +kernel⟩
theorem pd_yX8_bold : gw_pd yX8_bold RX8 1 := ⟨rfl, by decide +kernel, by decide +kernel, by decide +kernel⟩
theorem pd_yX8_mean : gw_pd yX8_mean RX8 1 := ⟨rfl, by decide +kernel, by decide +kernel, by decide +kernel⟩
theorem pd_yX8_lowest : gw_pd yX8_lowest RX8 3 := ⟨rfl, by decide +kernel, by decide +kernel, by decide +kernel⟩
theorem pd_yX8_judge : gw_pd yX8_judge RX8 1 := ⟨rfl, by decide +kernel, by decide +kernel, by decide +kernel⟩
theorem pd_yX8_sheetWrong : gw_pd yX8_sheetWrong RX8 1 := ⟨rfl, by decide +kernel, by decide +kernel, by decide +kernel⟩
theorem pd_yX8_unlike : gw_pd yX8_unlike RX8 1 := ⟨rfl, by decide +kernel, by decide +kernel, by decide +kernel⟩
theorem pd_yX8_kinds : gw_pd yX8_kinds RX8 3 := ⟨rfl, by decide +kernel, by decide +kernel, by decide +kernel⟩
theorem pd_yX8_turned : gw_pd yX8_turned RX8 2 := ⟨rfl, by decide +kernel, by decide +kernel, by decide +kernel⟩
theorem pd_yX8_states : gw_pd yX8_states RX8 4 := ⟨rfl, by decide +kernel, by decide +kernel, by decide +kernel⟩
theorem pd_yX8_feared : gw_pd yX8_feared RX8 1 := ⟨rfl, by decide +kernel, by decide +kernel, by decide +kernel⟩
theorem pd_yX8_laws : gw_pd yX8_laws RX8 1 := ⟨rfl, by decide +kernel, by decide +kernel, by decide +kernel⟩
theorem pd_yX8_film : gw_pd yX8_film RX8 2 := ⟨rfl, by decide +kernel, by decide +kernel, by decide +kernel⟩
theorem pd_yX8_drawn : gw_pd yX8_drawn RX8 2 := ⟨rfl, by decide +kernel, by decide +kernel, by decide +kernel⟩
theorem pd_yX8_dinners : gw_pd yX8_dinners RX8 1 := ⟨rfl, by decide +kernel, by decide +kernel, by decide +kernel⟩
theorem pd_yX8_odds : gw_pd yX8_odds RX8 4 := ⟨rfl, by decide +kernel, by decide +kernel, by decide +kernel⟩
theorem pd_yX8_image : gw_pd yX8_image RX8 0 := ⟨rfl, by decide +kernel, by decide +kernel, by decide +kernel⟩
theorem pd_yX8_back : gw_pd yX8_back RX8 0 := ⟨rfl, by decide +kernel, by decide +kernel, by decide +kernel⟩
theorem pd_yX8_sheet : gw_pd yX8_sheet RX8 3 := ⟨rfl, by decide +kernel, by decide +kernel, by decide +kernel⟩
theorem pd_yX8_cell : gw_pd yX8_cell RX8 3 := ⟨rfl, by decide +kernel, by decide +kernel, by decide +kernel⟩
theorem pd_yX8_copy : gw_pd yX8_copy RX8 5 := ⟨rfl, by decide +kernel, by decide +kernel, by decide +kernel⟩
theorem pd_yX8_guestsBy : gw_pd yX8_guestsBy RX8 4 := ⟨rfl, by decide +kernel, by decide +kernel, by decide +kernel⟩
theorem pd_yX8_taken : gw_pd yX8_taken RX8 2 := ⟨rfl, by decide +kernel, by decide +kernel, by decide +kernel⟩
theorem pd_yX8_isUnder : gw_pd yX8_isUnder RX8 2 := ⟨rfl, by decide +kernel, by decide +kernel, by decide +kernel⟩
theorem tb_out10_m16 {x : Int32} (h0 : ¬ x = (-16)) (h1 : ¬ x = (-15)) (h2 : ¬ x = (-14)) (h3 : ¬ x = (-13)) (h4 : ¬ x = (-12)) (h5 : ¬ x = (-11)) (h6 : ¬ x = (-10)) (h7 : ¬ x = (-9)) (h8 : ¬ x = (-8)) (h9 : ¬ x = (-7)) : x.toInt < (-16) ∨ (-7) < x.toInt := by
  have g0 := lv_neT (a := (-16)) h0 (by decide)
  have g1 := lv_neT (a := (-15)) h1 (by decide)
  have g2 := lv_neT (a := (-14)) h2 (by decide)
  have g3 := lv_neT (a := (-13)) h3 (by decide)
  have g4 := lv_neT (a := (-12)) h4 (by decide)
  have g5 := lv_neT (a := (-11)) h5 (by decide)
  have g6 := lv_neT (a := (-10)) h6 (by decide)
  have g7 := lv_neT (a := (-9)) h7 (by decide)
  have g8 := lv_neT (a := (-8)) h8 (by decide)
  have g9 := lv_neT (a := (-7)) h9 (by decide)
  omega
theorem tb_out5_m5 {x : Int32} (h0 : ¬ x = (-5)) (h1 : ¬ x = (-4)) (h2 : ¬ x = (-3)) (h3 : ¬ x = (-2)) (h4 : ¬ x = (-1)) : x.toInt < (-5) ∨ (-1) < x.toInt := by
  have g0 := lv_neT (a := (-5)) h0 (by decide)
  have g1 := lv_neT (a := (-4)) h1 (by decide)
  have g2 := lv_neT (a := (-3)) h2 (by decide)
  have g3 := lv_neT (a := (-2)) h3 (by decide)
  have g4 := lv_neT (a := (-1)) h4 (by decide)
  omega
theorem tb_out3_0 {x : Int32} (h0 : ¬ x = 0) (h1 : ¬ x = 1) (h2 : ¬ x = 2) : x.toInt < 0 ∨ 2 < x.toInt := by
  have g0 := lv_neT (a := 0) h0 (by decide)
  have g1 := lv_neT (a := 1) h1 (by decide)
  have g2 := lv_neT (a := 2) h2 (by decide)
  omega
theorem tb_out4_0 {x : Int32} (h0 : ¬ x = 0) (h1 : ¬ x = 1) (h2 : ¬ x = 2) (h3 : ¬ x = 3) : x.toInt < 0 ∨ 3 < x.toInt := by
  have g0 := lv_neT (a := 0) h0 (by decide)
  have g1 := lv_neT (a := 1) h1 (by decide)
  have g2 := lv_neT (a := 2) h2 (by decide)
  have g3 := lv_neT (a := 3) h3 (by decide)
  omega
theorem tb_out5_0 {x : Int32} (h0 : ¬ x = 0) (h1 : ¬ x = 1) (h2 : ¬ x = 2) (h3 : ¬ x = 3) (h4 : ¬ x = 4) : x.toInt < 0 ∨ 4 < x.toInt := by
  have g0 := lv_neT (a := 0) h0 (by decide)
  have g1 := lv_neT (a := 1) h1 (by decide)
  have g2 := lv_neT (a := 2) h2 (by decide)
  have g3 := lv_neT (a := 3) h3 (by decide)
  have g4 := lv_neT (a := 4) h4 (by decide)
  omega
theorem tb_out6_0 {x : Int32} (h0 : ¬ x = 0) (h1 : ¬ x = 1) (h2 : ¬ x = 2) (h3 : ¬ x = 3) (h4 : ¬ x = 4) (h5 : ¬ x = 5) : x.toInt < 0 ∨ 5 < x.toInt := by
  have g0 := lv_neT (a := 0) h0 (by decide)
  have g1 := lv_neT (a := 1) h1 (by decide)
  have g2 := lv_neT (a := 2) h2 (by decide)
  have g3 := lv_neT (a := 3) h3 (by decide)
  have g4 := lv_neT (a := 4) h4 (by decide)
  have g5 := lv_neT (a := 5) h5 (by decide)
  omega
theorem tb_out10_0 {x : Int32} (h0 : ¬ x = 0) (h1 : ¬ x = 1) (h2 : ¬ x = 2) (h3 : ¬ x = 3) (h4 : ¬ x = 4) (h5 : ¬ x = 5) (h6 : ¬ x = 6) (h7 : ¬ x = 7) (h8 : ¬ x = 8) (h9 : ¬ x = 9) : x.toInt < 0 ∨ 9 < x.toInt := by
  have g0 := lv_neT (a := 0) h0 (by decide)
  have g1 := lv_neT (a := 1) h1 (by decide)
  have g2 := lv_neT (a := 2) h2 (by decide)
  have g3 := lv_neT (a := 3) h3 (by decide)
  have g4 := lv_neT (a := 4) h4 (by decide)
  have g5 := lv_neT (a := 5) h5 (by decide)
  have g6 := lv_neT (a := 6) h6 (by decide)
  have g7 := lv_neT (a := 7) h7 (by decide)
  have g8 := lv_neT (a := 8) h8 (by decide)
  have g9 := lv_neT (a := 9) h9 (by decide)
  omega
theorem tb_out4_1 {x : Int32} (h0 : ¬ x = 1) (h1 : ¬ x = 2) (h2 : ¬ x = 3) (h3 : ¬ x = 4) : x.toInt < 1 ∨ 4 < x.toInt := by
  have g0 := lv_neT (a := 1) h0 (by decide)
  have g1 := lv_neT (a := 2) h1 (by decide)
  have g2 := lv_neT (a := 3) h2 (by decide)
  have g3 := lv_neT (a := 4) h3 (by decide)
  omega
theorem tb_out5_1 {x : Int32} (h0 : ¬ x = 1) (h1 : ¬ x = 2) (h2 : ¬ x = 3) (h3 : ¬ x = 4) (h4 : ¬ x = 5) : x.toInt < 1 ∨ 5 < x.toInt := by
  have g0 := lv_neT (a := 1) h0 (by decide)
  have g1 := lv_neT (a := 2) h1 (by decide)
  have g2 := lv_neT (a := 3) h2 (by decide)
  have g3 := lv_neT (a := 4) h3 (by decide)
  have g4 := lv_neT (a := 5) h4 (by decide)
  omega
theorem tb_out7_11 {x : Int32} (h0 : ¬ x = 11) (h1 : ¬ x = 12) (h2 : ¬ x = 13) (h3 : ¬ x = 14) (h4 : ¬ x = 15) (h5 : ¬ x = 16) (h6 : ¬ x = 17) : x.toInt < 11 ∨ 17 < x.toInt := by
  have g0 := lv_neT (a := 11) h0 (by decide)
  have g1 := lv_neT (a := 12) h1 (by decide)
  have g2 := lv_neT (a := 13) h2 (by decide)
  have g3 := lv_neT (a := 14) h3 (by decide)
  have g4 := lv_neT (a := 15) h4 (by decide)
  have g5 := lv_neT (a := 16) h5 (by decide)
  have g6 := lv_neT (a := 17) h6 (by decide)
  omega
theorem tb_out22_40 {x : Int32} (h0 : ¬ x = 40) (h1 : ¬ x = 41) (h2 : ¬ x = 42) (h3 : ¬ x = 43) (h4 : ¬ x = 44) (h5 : ¬ x = 45) (h6 : ¬ x = 46) (h7 : ¬ x = 47) (h8 : ¬ x = 48) (h9 : ¬ x = 49) (h10 : ¬ x = 50) (h11 : ¬ x = 51) (h12 : ¬ x = 52) (h13 : ¬ x = 53) (h14 : ¬ x = 54) (h15 : ¬ x = 55) (h16 : ¬ x = 56) (h17 : ¬ x = 57) (h18 : ¬ x = 58) (h19 : ¬ x = 59) (h20 : ¬ x = 60) (h21 : ¬ x = 61) : x.toInt < 40 ∨ 61 < x.toInt := by
  have g0 := lv_neT (a := 40) h0 (by decide)
  have g1 := lv_neT (a := 41) h1 (by decide)
  have g2 := lv_neT (a := 42) h2 (by decide)
  have g3 := lv_neT (a := 43) h3 (by decide)
  have g4 := lv_neT (a := 44) h4 (by decide)
  have g5 := lv_neT (a := 45) h5 (by decide)
  have g6 := lv_neT (a := 46) h6 (by decide)
  have g7 := lv_neT (a := 47) h7 (by decide)
  have g8 := lv_neT (a := 48) h8 (by decide)
  have g9 := lv_neT (a := 49) h9 (by decide)
  have g10 := lv_neT (a := 50) h10 (by decide)
  have g11 := lv_neT (a := 51) h11 (by decide)
  have g12 := lv_neT (a := 52) h12 (by decide)
  have g13 := lv_neT (a := 53) h13 (by decide)
  have g14 := lv_neT (a := 54) h14 (by decide)
  have g15 := lv_neT (a := 55) h15 (by decide)
  have g16 := lv_neT (a := 56) h16 (by decide)
  have g17 := lv_neT (a := 57) h17 (by decide)
  have g18 := lv_neT (a := 58) h18 (by decide)
  have g19 := lv_neT (a := 59) h19 (by decide)
  have g20 := lv_neT (a := 60) h20 (by decide)
  have g21 := lv_neT (a := 61) h21 (by decide)
  omega
theorem i32_le {x z : Int32} : (x ≤ z) = ¬ (z < x) := propext Int32.not_lt.symm
theorem mi_5k (q k : Nat) : (5 : Int32) * nI q + nI k = nI (5 * q + k) := by
  rw [show (5 : Int32) = nI 5 from rfl, pk_mul, nI_add]
theorem mi_50 (q : Nat) : (5 : Int32) * nI q = nI (5 * q + 0) := by
  rw [show (5 : Int32) = nI 5 from rfl, pk_mul]; rfl
section XR2
variable {p : Program} {l : Launch} {e : Env} {R : Room} {s : State} {m : MethodId} {args : Array Value} {below : List Frame} {meth : Method} {c : Code} {H H0 : Heap} {locs : List Loc} {cells slots : Nat} {Q : State → Prop}
variable {cc : ByteArray} {pc nL idx n : Nat} {ls : Array Slot} {rest : List Value} {D : va_G} {A : Nat → Prop} {cs : Nat → ClassId} {ad : Nat → Nat} {own : String}
variable {ρ σ : Nat → Nat → Int32} {TT τ : Nat → Nat → Nat → Int32}
theorem xr_Rn {b q : Nat} {i : Int32} (hi : i = nI q) (hq : q < 6) (F : CallFix p m c cc nL s args TBL own) (hW : XW D cs ad n ρ TT τ σ A s H0 H locs) (hb : b < 3) (hdg : decode cc pc = .ok (.aaload, 1))
    (kk : W p l e R s m args below meth c H locs cells slots Q (F0 m (pc + 1) ls (.ref (ad (9 + 8 * b + 1 + 1 + q)) :: rest))) : W p l e R s m args below meth c H locs cells slots Q (F0 m pc ls (.int i :: .ref (ad (9 + 8 * b + 1)) :: rest)) := by
  subst hi
  obtain ⟨h1, h2⟩ := mi_ix (q := q) (n := 6) hq (by decide)
  exact xr_R F hW hb h1 hdg (by rw [h2]; exact kk)
theorem xr_San {q : Nat} {i : Int32} (hi : i = nI q) (hq : q < 4) (F : CallFix p m c cc nL s args TBL own) (hW : XW D cs ad n ρ TT τ σ A s H0 H locs) (hdg : decode cc pc = .ok (.aaload, 1))
    (kk : W p l e R s m args below meth c H locs cells slots Q (F0 m (pc + 1) ls (.ref (ad (34 + q)) :: rest))) : W p l e R s m args below meth c H locs cells slots Q (F0 m pc ls (.int i :: .ref (ad 33) :: rest)) := by
  subst hi
  obtain ⟨h1, h2⟩ := mi_ix (q := q) (n := 4) hq (by decide)
  exact xr_Sa F hW h1 hdg (by rw [h2]; exact kk)
theorem xr_Xan {q : Nat} {i : Int32} (hi : i = nI q) (hq : q < 6) (hn : q < n) (F : CallFix p m c cc nL s args TBL own) (hW : XW D cs ad n ρ TT τ σ A s H0 H locs) (hdg : decode cc pc = .ok (.aaload, 1))
    (kk : W p l e R s m args below meth c H locs cells slots Q (F0 m (pc + 1) ls (.ref (ad (42 + 3 * q)) :: rest))) : W p l e R s m args below meth c H locs cells slots Q (F0 m pc ls (.int i :: .ref (ad 8) :: rest)) := by
  subst hi
  obtain ⟨h1, h2⟩ := mi_ix (q := q) (n := 6) hq (by decide)
  exact xr_Xa F hW h1 (by rw [h2]; exact hn) hdg (by rw [h2]; exact kk)
end XR2
/-! short words for contracts: X the class, M the reference; i, l, v: what is answered; P: a pure static method -/
abbrev PM (l : Launch) (y : MethodName) (cc : ByteArray) (nL : Nat) (ty : FieldType) (rm : Room) (As : List Value) (r : Int32) : Prop := Met l y (WSm y cc nL (some ty)) rm (fun v _ => v = As.toArray) (QcRead r) 0 0 (fun _ => False)
abbrev XMi {S : Type} (l : Launch) (y : MethodName) (cc : ByteArray) (nL : Nat) (ty : FieldType) (rm : Room) (As : List Value) (D : va_G) (cs : Nat → ClassId) (ad : Nat → Nat) (n : Nat) (ρ : Nat → Nat → Int32) (TT τ : Nat → Nat → Nat → Int32) (σ : Nat → Nat → Int32) (sz : Nat) (post : Int32 → S → Prop) (Ff : S → Nat → va_E) : Prop := Met l y (WSm y cc nL (some ty)) rm (va_Pc As (gw_B D (xtys cs) (42 + 3 * n) ad (xent ad cs n ρ TT τ σ) sz XE)) (va_Qi post (fun u t => va_P D vwCl (gw_L (42 + 3 * n) ad (Ff u)) t.heap) (gw_A (42 + 3 * n) ad sz)) 0 0 (gw_A (42 + 3 * n) ad sz)
abbrev XMl {S : Type} (l : Launch) (y : MethodName) (cc : ByteArray) (nL : Nat) (rm : Room) (As : List Value) (D : va_G) (cs : Nat → ClassId) (ad : Nat → Nat) (n : Nat) (ρ : Nat → Nat → Int32) (TT τ : Nat → Nat → Nat → Int32) (σ : Nat → Nat → Int32) (sz : Nat) (post : Int64 → S → Prop) (Ff : S → Nat → va_E) : Prop := Met l y (WSm y cc nL (some .long)) rm (va_Pc As (gw_B D (xtys cs) (42 + 3 * n) ad (xent ad cs n ρ TT τ σ) sz XE)) (va_Ql post (fun u t => va_P D vwCl (gw_L (42 + 3 * n) ad (Ff u)) t.heap) (gw_A (42 + 3 * n) ad sz)) 0 0 (gw_A (42 + 3 * n) ad sz)
abbrev XMv {S : Type} (l : Launch) (y : MethodName) (cc : ByteArray) (nL : Nat) (rm : Room) (As : List Value) (D : va_G) (cs : Nat → ClassId) (ad : Nat → Nat) (n : Nat) (ρ : Nat → Nat → Int32) (TT τ : Nat → Nat → Nat → Int32) (σ : Nat → Nat → Int32) (sz : Nat) (post : S → Prop) (Ff : S → Nat → va_E) : Prop := Met l y (WSm y cc nL none) rm (va_Pc As (gw_B D (xtys cs) (42 + 3 * n) ad (xent ad cs n ρ TT τ σ) sz XE)) (va_Qv post (fun u t => va_P D vwCl (gw_L (42 + 3 * n) ad (Ff u)) t.heap) (gw_A (42 + 3 * n) ad sz)) 0 0 (gw_A (42 + 3 * n) ad sz)
abbrev MMi {S : Type} (l : Launch) (y : MethodName) (cc : ByteArray) (nL : Nat) (ty : FieldType) (rm : Room) (As : List Value) (D : va_G) (cA : ClassId) (ad : Nat → Nat) (ρ T σ : Nat → Nat → Int32) (sz : Nat) (post : Int32 → S → Prop) (Ff : S → Nat → va_E) : Prop := Met l y (WSm y cc nL (some ty)) rm (va_Pc As (gw_B D (mtys cA) 18 ad (ment ad cA ρ T σ) sz gw_T)) (va_Qi post (fun u t => va_P D vwCl (gw_L 18 ad (Ff u)) t.heap) (gw_A 18 ad sz)) 0 0 (gw_A 18 ad sz)
abbrev MMl {S : Type} (l : Launch) (y : MethodName) (cc : ByteArray) (nL : Nat) (rm : Room) (As : List Value) (D : va_G) (cA : ClassId) (ad : Nat → Nat) (ρ T σ : Nat → Nat → Int32) (sz : Nat) (post : Int64 → S → Prop) (Ff : S → Nat → va_E) : Prop := Met l y (WSm y cc nL (some .long)) rm (va_Pc As (gw_B D (mtys cA) 18 ad (ment ad cA ρ T σ) sz gw_T)) (va_Ql post (fun u t => va_P D vwCl (gw_L 18 ad (Ff u)) t.heap) (gw_A 18 ad sz)) 0 0 (gw_A 18 ad sz)
abbrev MMv {S : Type} (l : Launch) (y : MethodName) (cc : ByteArray) (nL : Nat) (rm : Room) (As : List Value) (D : va_G) (cA : ClassId) (ad : Nat → Nat) (ρ T σ : Nat → Nat → Int32) (sz : Nat) (post : S → Prop) (Ff : S → Nat → va_E) : Prop := Met l y (WSm y cc nL none) rm (va_Pc As (gw_B D (mtys cA) 18 ad (ment ad cA ρ T σ) sz gw_T)) (va_Qv post (fun u t => va_P D vwCl (gw_L 18 ad (Ff u)) t.heap) (gw_A 18 ad sz)) 0 0 (gw_A 18 ad sz)
