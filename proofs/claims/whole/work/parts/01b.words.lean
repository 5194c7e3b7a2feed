/-- the words that hold of every later state too -/
def lw_gt : List Cond := lw_tbl.filter goodWord
theorem in_g {w : Cond} (h : w ∈ lw_tbl) (hg : goodWord w = true) : w ∈ lw_gt := List.mem_filter.mpr ⟨h, hg⟩
theorem gt_tbl {w : Cond} (h : w ∈ lw_gt) : w ∈ lw_tbl := (List.mem_filter.mp h).1
theorem gt_good {c : Cond} (h : c ∈ lw_gt) {d : Cond} : GoodIn (d :: lw_gt) (c :: lw_gt) := fun w hw => (List.mem_cons.mp hw).elim (fun e => e ▸ ⟨List.mem_cons_of_mem _ h, good_of_word (List.mem_filter.mp h).2⟩) (fun hw => ⟨List.mem_cons_of_mem _ hw, good_of_word (List.mem_filter.mp hw).2⟩)
/-- the words of nest mates: they hold of every later state, but by rows of their own -/
def lw_isN : Cond → Bool
  | .fieldLinkNest .. => true
  | .methodLinkNest .. => true
  | _ => false
def lw_nt : List Cond := lw_tbl.filter lw_isN
theorem in_n {w : Cond} (h : w ∈ lw_tbl) (hg : lw_isN w = true) : w ∈ lw_nt := List.mem_filter.mpr ⟨h, hg⟩
theorem in_t0 {w : Cond} (h : w ∈ k2_sels lw_privs) : w ∈ lw_tbl := List.mem_append_left _ h
theorem in_t1 {w : Cond} (h : w ∈ tables_1_1) : w ∈ lw_tbl := List.mem_append_right _ (List.mem_append_left _ h)
theorem in_t2 {w : Cond} (h : w ∈ tables_1_2) : w ∈ lw_tbl := List.mem_append_right _ (List.mem_append_right _ (List.mem_append_left _ h))
theorem in_t3 {w : Cond} (h : w ∈ tables_1_3) : w ∈ lw_tbl := List.mem_append_right _ (List.mem_append_right _ (List.mem_append_right _ (List.mem_append_left _ h)))
theorem in_t4 {w : Cond} (h : w ∈ tables_1_4) : w ∈ lw_tbl := List.mem_append_right _ (List.mem_append_right _ (List.mem_append_right _ (List.mem_append_right _ (List.mem_append_left _ h))))
theorem in_t5 {w : Cond} (h : w ∈ tables_1_5) : w ∈ lw_tbl := List.mem_append_right _ (List.mem_append_right _ (List.mem_append_right _ (List.mem_append_right _ (List.mem_append_right _ h))))
theorem wS_X3_untell : Cond.selects RX3 yX3_untell yX3_untell ∈ lw_gt := in_g (in_t0 (List.mem_of_getElem? (i := 0) rfl)) rfl
theorem wS_X5_readLetters : Cond.selects RX5 yX5_readLetters yX5_readLetters ∈ lw_gt := in_g (in_t0 (List.mem_of_getElem? (i := 1) rfl)) rfl
theorem wS_X5_readNumber : Cond.selects RX5 yX5_readNumber yX5_readNumber ∈ lw_gt := in_g (in_t0 (List.mem_of_getElem? (i := 2) rfl)) rfl
theorem wS_X3_readItem : Cond.selects RX3 yX3_readItem yX3_readItem ∈ lw_gt := in_g (in_t0 (List.mem_of_getElem? (i := 3) rfl)) rfl
theorem wS_X3_readNumbers : Cond.selects RX3 yX3_readNumbers yX3_readNumbers ∈ lw_gt := in_g (in_t0 (List.mem_of_getElem? (i := 4) rfl)) rfl
theorem wS_X3_tellTrays : Cond.selects RX3 yX3_tellTrays yX3_tellTrays ∈ lw_gt := in_g (in_t0 (List.mem_of_getElem? (i := 5) rfl)) rfl
theorem wS_X3_tellToner : Cond.selects RX3 yX3_tellToner yX3_tellToner ∈ lw_gt := in_g (in_t0 (List.mem_of_getElem? (i := 6) rfl)) rfl
theorem wS_X3_tellBins : Cond.selects RX3 yX3_tellBins yX3_tellBins ∈ lw_gt := in_g (in_t0 (List.mem_of_getElem? (i := 7) rfl)) rfl
theorem wS_X3_tellJob : Cond.selects RX3 yX3_tellJob yX3_tellJob ∈ lw_gt := in_g (in_t0 (List.mem_of_getElem? (i := 8) rfl)) rfl
theorem wS_X6_endsIn : Cond.selects RX6 yX6_endsIn yX6_endsIn ∈ lw_gt := in_g (in_t0 (List.mem_of_getElem? (i := 9) rfl)) rfl
theorem wS_X2_bringSheet : Cond.selects RX2 yX2_bringSheet yX2_bringSheet ∈ lw_gt := in_g (in_t0 (List.mem_of_getElem? (i := 10) rfl)) rfl
theorem wS_X0_knownAt : Cond.selects RX0 yX0_knownAt yX0_knownAt ∈ lw_gt := in_g (in_t0 (List.mem_of_getElem? (i := 11) rfl)) rfl
theorem wS_X6_shortestBut : Cond.selects RX6 yX6_shortestBut yX6_shortestBut ∈ lw_gt := in_g (in_t0 (List.mem_of_getElem? (i := 12) rfl)) rfl
theorem wS_X4_fits : Cond.selects RX4 yX4_fits yX4_fits ∈ lw_gt := in_g (in_t0 (List.mem_of_getElem? (i := 13) rfl)) rfl
theorem wS_X6_worthAs : Cond.selects RX6 yX6_worthAs yX6_worthAs ∈ lw_gt := in_g (in_t0 (List.mem_of_getElem? (i := 14) rfl)) rfl
theorem wS_X6_imageAt : Cond.selects RX6 yX6_imageAt yX6_imageAt ∈ lw_gt := in_g (in_t0 (List.mem_of_getElem? (i := 15) rfl)) rfl
theorem wS_X7_begin : Cond.selects RX7 yX7_begin yX7_begin ∈ lw_gt := in_g (in_t0 (List.mem_of_getElem? (i := 16) rfl)) rfl
theorem wS_X7_next : Cond.selects RX7 yX7_next yX7_next ∈ lw_gt := in_g (in_t0 (List.mem_of_getElem? (i := 17) rfl)) rfl
theorem wS_X7_letter : Cond.selects RX7 yX7_letter yX7_letter ∈ lw_gt := in_g (in_t0 (List.mem_of_getElem? (i := 18) rfl)) rfl
theorem wS_X7_readNumber : Cond.selects RX7 yX7_readNumber yX7_readNumber ∈ lw_gt := in_g (in_t0 (List.mem_of_getElem? (i := 19) rfl)) rfl
theorem wS_X7_readLetters : Cond.selects RX7 yX7_readLetters yX7_readLetters ∈ lw_gt := in_g (in_t0 (List.mem_of_getElem? (i := 20) rfl)) rfl
theorem wS_X7_readItem : Cond.selects RX7 yX7_readItem yX7_readItem ∈ lw_gt := in_g (in_t0 (List.mem_of_getElem? (i := 21) rfl)) rfl
theorem wS_X7_readTrays : Cond.selects RX7 yX7_readTrays yX7_readTrays ∈ lw_gt := in_g (in_t0 (List.mem_of_getElem? (i := 22) rfl)) rfl
theorem wS_X7_takesNumber : Cond.selects RX7 yX7_takesNumber yX7_takesNumber ∈ lw_gt := in_g (in_t0 (List.mem_of_getElem? (i := 23) rfl)) rfl
theorem wS_X7_readJob : Cond.selects RX7 yX7_readJob yX7_readJob ∈ lw_gt := in_g (in_t0 (List.mem_of_getElem? (i := 24) rfl)) rfl
theorem wS_X7_ends : Cond.selects RX7 yX7_ends yX7_ends ∈ lw_gt := in_g (in_t0 (List.mem_of_getElem? (i := 25) rfl)) rfl
theorem wS_X7_isJob : Cond.selects RX7 yX7_isJob yX7_isJob ∈ lw_gt := in_g (in_t0 (List.mem_of_getElem? (i := 26) rfl)) rfl
theorem wS_X7_allOf : Cond.selects RX7 yX7_allOf yX7_allOf ∈ lw_gt := in_g (in_t0 (List.mem_of_getElem? (i := 27) rfl)) rfl
theorem wS_X7_leaves : Cond.selects RX7 yX7_leaves yX7_leaves ∈ lw_gt := in_g (in_t0 (List.mem_of_getElem? (i := 28) rfl)) rfl
theorem wS_X7_copyOf : Cond.selects RX7 yX7_copyOf yX7_copyOf ∈ lw_gt := in_g (in_t0 (List.mem_of_getElem? (i := 29) rfl)) rfl
theorem wS_X7_frontOf : Cond.selects RX7 yX7_frontOf yX7_frontOf ∈ lw_gt := in_g (in_t0 (List.mem_of_getElem? (i := 30) rfl)) rfl
theorem wS_X7_leafOf : Cond.selects RX7 yX7_leafOf yX7_leafOf ∈ lw_gt := in_g (in_t0 (List.mem_of_getElem? (i := 31) rfl)) rfl
theorem wS_X7_backOf : Cond.selects RX7 yX7_backOf yX7_backOf ∈ lw_gt := in_g (in_t0 (List.mem_of_getElem? (i := 32) rfl)) rfl
theorem wS_X7_binOf : Cond.selects RX7 yX7_binOf yX7_binOf ∈ lw_gt := in_g (in_t0 (List.mem_of_getElem? (i := 33) rfl)) rfl
theorem wS_X7_isPage : Cond.selects RX7 yX7_isPage yX7_isPage ∈ lw_gt := in_g (in_t0 (List.mem_of_getElem? (i := 34) rfl)) rfl
theorem wS_X7_note : Cond.selects RX7 yX7_note yX7_note ∈ lw_gt := in_g (in_t0 (List.mem_of_getElem? (i := 35) rfl)) rfl
theorem wS_X7_oneTick : Cond.selects RX7 yX7_oneTick yX7_oneTick ∈ lw_gt := in_g (in_t0 (List.mem_of_getElem? (i := 36) rfl)) rfl
theorem wS_X7_stands : Cond.selects RX7 yX7_stands yX7_stands ∈ lw_gt := in_g (in_t0 (List.mem_of_getElem? (i := 37) rfl)) rfl
theorem wS_X7_sidesOf : Cond.selects RX7 yX7_sidesOf yX7_sidesOf ∈ lw_gt := in_g (in_t0 (List.mem_of_getElem? (i := 38) rfl)) rfl
theorem wS_X7_leaveAt : Cond.selects RX7 yX7_leaveAt yX7_leaveAt ∈ lw_gt := in_g (in_t0 (List.mem_of_getElem? (i := 39) rfl)) rfl
theorem wS_X7_placeOf : Cond.selects RX7 yX7_placeOf yX7_placeOf ∈ lw_gt := in_g (in_t0 (List.mem_of_getElem? (i := 40) rfl)) rfl
theorem wS_X7_inTicks : Cond.selects RX7 yX7_inTicks yX7_inTicks ∈ lw_gt := in_g (in_t0 (List.mem_of_getElem? (i := 41) rfl)) rfl
theorem wS_X7_leftOf : Cond.selects RX7 yX7_leftOf yX7_leftOf ∈ lw_gt := in_g (in_t0 (List.mem_of_getElem? (i := 42) rfl)) rfl
theorem wS_X7_wantsOf : Cond.selects RX7 yX7_wantsOf yX7_wantsOf ∈ lw_gt := in_g (in_t0 (List.mem_of_getElem? (i := 43) rfl)) rfl
theorem wS_X7_inBins : Cond.selects RX7 yX7_inBins yX7_inBins ∈ lw_gt := in_g (in_t0 (List.mem_of_getElem? (i := 44) rfl)) rfl
theorem wS_X7_wantsInk : Cond.selects RX7 yX7_wantsInk yX7_wantsInk ∈ lw_gt := in_g (in_t0 (List.mem_of_getElem? (i := 45) rfl)) rfl
theorem wS_X7_shortest : Cond.selects RX7 yX7_shortest yX7_shortest ∈ lw_gt := in_g (in_t0 (List.mem_of_getElem? (i := 46) rfl)) rfl
theorem wS_X7_hasInFront : Cond.selects RX7 yX7_hasInFront yX7_hasInFront ∈ lw_gt := in_g (in_t0 (List.mem_of_getElem? (i := 47) rfl)) rfl
theorem wS_X7_asJob : Cond.selects RX7 yX7_asJob yX7_asJob ∈ lw_gt := in_g (in_t0 (List.mem_of_getElem? (i := 48) rfl)) rfl
theorem wS_X7_asMemo : Cond.selects RX7 yX7_asMemo yX7_asMemo ∈ lw_gt := in_g (in_t0 (List.mem_of_getElem? (i := 49) rfl)) rfl
theorem wS_X7_asReport : Cond.selects RX7 yX7_asReport yX7_asReport ∈ lw_gt := in_g (in_t0 (List.mem_of_getElem? (i := 50) rfl)) rfl
theorem wS_X7_asNotice : Cond.selects RX7 yX7_asNotice yX7_asNotice ∈ lw_gt := in_g (in_t0 (List.mem_of_getElem? (i := 51) rfl)) rfl
theorem wS_X7_asLedger : Cond.selects RX7 yX7_asLedger yX7_asLedger ∈ lw_gt := in_g (in_t0 (List.mem_of_getElem? (i := 52) rfl)) rfl
theorem wS_X7_asFlyer : Cond.selects RX7 yX7_asFlyer yX7_asFlyer ∈ lw_gt := in_g (in_t0 (List.mem_of_getElem? (i := 53) rfl)) rfl
theorem wZ_L : Cond.initialized RL ∈ lw_gt := in_g (in_t1 (List.mem_of_getElem? (i := 0) rfl)) rfl
theorem wZ_X6 : Cond.initialized RX6 ∈ lw_gt := in_g (in_t1 (List.mem_of_getElem? (i := 1) rfl)) rfl
theorem wZ_X5 : Cond.initialized RX5 ∈ lw_gt := in_g (in_t1 (List.mem_of_getElem? (i := 2) rfl)) rfl
theorem wZ_X0 : Cond.initialized RX0 ∈ lw_gt := in_g (in_t1 (List.mem_of_getElem? (i := 3) rfl)) rfl
theorem wZ_X2 : Cond.initialized RX2 ∈ lw_gt := in_g (in_t1 (List.mem_of_getElem? (i := 4) rfl)) rfl
theorem wZ_X4 : Cond.initialized RX4 ∈ lw_gt := in_g (in_t1 (List.mem_of_getElem? (i := 5) rfl)) rfl
theorem wZ_X3 : Cond.initialized RX3 ∈ lw_gt := in_g (in_t1 (List.mem_of_getElem? (i := 6) rfl)) rfl
theorem wZ_X1 : Cond.initialized RX1 ∈ lw_gt := in_g (in_t1 (List.mem_of_getElem? (i := 7) rfl)) rfl
theorem wZ_J7 : Cond.initialized RJ7 ∈ lw_gt := in_g (in_t1 (List.mem_of_getElem? (i := 8) rfl)) rfl
theorem wZ_X7 : Cond.initialized RX7 ∈ lw_gt := in_g (in_t1 (List.mem_of_getElem? (i := 9) rfl)) rfl
theorem wZ_J9 : Cond.initialized RJ9 ∈ lw_gt := in_g (in_t1 (List.mem_of_getElem? (i := 10) rfl)) rfl
theorem wZ_J6 : Cond.initialized RJ6 ∈ lw_gt := in_g (in_t1 (List.mem_of_getElem? (i := 11) rfl)) rfl
theorem wK_L_7 : Cond.classLink RL 7 RX6 ∈ lw_gt := in_g (in_t1 (List.mem_of_getElem? (i := 12) rfl)) rfl
theorem wU_X6 : Cond.instantiable RX6 9 ∈ lw_gt := in_g (in_t1 (List.mem_of_getElem? (i := 13) rfl)) rfl
theorem wM_L_9 : Cond.methodLink RL 9 yX6_init ∈ lw_gt := in_g (in_t1 (List.mem_of_getElem? (i := 14) rfl)) rfl
theorem wI_X6_init : Cond.instanceMethod yX6_init ∈ lw_gt := in_g (in_t1 (List.mem_of_getElem? (i := 15) rfl)) rfl
theorem wC_X6_init : Cond.code yX6_init prog_1_method_1_code 2 (Option.none : Option FieldType) ∈ lw_gt := in_g (in_t1 (List.mem_of_getElem? (i := 16) rfl)) rfl
theorem wM_X6_1 : Cond.methodLink RX6 1 objectInit ∈ lw_gt := in_g (in_t1 (List.mem_of_getElem? (i := 17) rfl)) rfl
theorem wI_bjectInit : Cond.instanceMethod objectInit ∈ lw_gt := in_g (in_t1 (List.mem_of_getElem? (i := 18) rfl)) rfl
theorem wC_bjectInit : Cond.code objectInit object_method_1_code 1 (Option.none : Option FieldType) ∈ lw_gt := in_g (in_t1 (List.mem_of_getElem? (i := 19) rfl)) rfl
theorem wK_X6_7 : Cond.classLink RX6 7 RX5 ∈ lw_gt := in_g (in_t1 (List.mem_of_getElem? (i := 20) rfl)) rfl
theorem wU_X5 : Cond.instantiable RX5 6 ∈ lw_gt := in_g (in_t1 (List.mem_of_getElem? (i := 21) rfl)) rfl
theorem wO_X6_9 : Cond.methodLinkNest RX6 9 yX5_init "CopierJobs" ∈ lw_nt := in_n (in_t1 (List.mem_of_getElem? (i := 22) rfl)) rfl
theorem wI_X5_init : Cond.instanceMethod yX5_init ∈ lw_gt := in_g (in_t1 (List.mem_of_getElem? (i := 23) rfl)) rfl
theorem wC_X5_init : Cond.code yX5_init prog_7_method_1_code 1 (Option.none : Option FieldType) ∈ lw_gt := in_g (in_t1 (List.mem_of_getElem? (i := 24) rfl)) rfl
theorem wM_X5_3 : Cond.methodLink RX5 3 objectInit ∈ lw_gt := in_g (in_t1 (List.mem_of_getElem? (i := 25) rfl)) rfl
theorem wF_X5_9 : Cond.fieldLink RX5 9 "CopierJobs$Text" "bytes" "[I" ∈ lw_gt := in_g (in_t1 (List.mem_of_getElem? (i := 26) rfl)) rfl
theorem wF_X5_15 : Cond.fieldLink RX5 15 "CopierJobs$Text" "length" "I" ∈ lw_gt := in_g (in_t1 (List.mem_of_getElem? (i := 27) rfl)) rfl
theorem wG_X6_272 : Cond.fieldLinkNest RX6 272 "CopierJobs$Text" "length" "I" "CopierJobs" ∈ lw_nt := in_n (in_t1 (List.mem_of_getElem? (i := 28) rfl)) rfl
theorem wF_X5_23 : Cond.fieldLink RX5 23 "CopierJobs$Text" "place" "I" ∈ lw_gt := in_g (in_t1 (List.mem_of_getElem? (i := 29) rfl)) rfl
theorem wG_X3_75 : Cond.fieldLinkNest RX3 75 "CopierJobs$Text" "token" "I" "CopierJobs" ∈ lw_nt := in_n (in_t1 (List.mem_of_getElem? (i := 30) rfl)) rfl
theorem wF_X5_36 : Cond.fieldLink RX5 36 "CopierJobs$Text" "token" "I" ∈ lw_gt := in_g (in_t1 (List.mem_of_getElem? (i := 31) rfl)) rfl
theorem wF_X5_30 : Cond.fieldLink RX5 30 "CopierJobs$Text" "start" "I" ∈ lw_gt := in_g (in_t1 (List.mem_of_getElem? (i := 32) rfl)) rfl
theorem wG_X3_82 : Cond.fieldLinkNest RX3 82 "CopierJobs$Text" "start" "I" "CopierJobs" ∈ lw_nt := in_n (in_t1 (List.mem_of_getElem? (i := 33) rfl)) rfl
theorem wF_X5_33 : Cond.fieldLink RX5 33 "CopierJobs$Text" "value" "I" ∈ lw_gt := in_g (in_t1 (List.mem_of_getElem? (i := 34) rfl)) rfl
theorem wG_X3_85 : Cond.fieldLinkNest RX3 85 "CopierJobs$Text" "value" "I" "CopierJobs" ∈ lw_nt := in_n (in_t1 (List.mem_of_getElem? (i := 35) rfl)) rfl
theorem wL_X5_bytes : Cond.laysFinal RX5 "CopierJobs$Text" "bytes" "[I" ∈ lw_gt := in_g (in_t1 (List.mem_of_getElem? (i := 36) rfl)) rfl
theorem wL_X5_length : Cond.lays RX5 "CopierJobs$Text" "length" "I" ∈ lw_gt := in_g (in_t1 (List.mem_of_getElem? (i := 38) rfl)) rfl
theorem wL_X5_place : Cond.lays RX5 "CopierJobs$Text" "place" "I" ∈ lw_gt := in_g (in_t1 (List.mem_of_getElem? (i := 40) rfl)) rfl
theorem wL_X5_token : Cond.lays RX5 "CopierJobs$Text" "token" "I" ∈ lw_gt := in_g (in_t1 (List.mem_of_getElem? (i := 42) rfl)) rfl
theorem wL_X5_start : Cond.lays RX5 "CopierJobs$Text" "start" "I" ∈ lw_gt := in_g (in_t1 (List.mem_of_getElem? (i := 44) rfl)) rfl
theorem wL_X5_value : Cond.lays RX5 "CopierJobs$Text" "value" "I" ∈ lw_gt := in_g (in_t1 (List.mem_of_getElem? (i := 46) rfl)) rfl
theorem wK_X6_16 : Cond.classLink RX6 16 RX0 ∈ lw_gt := in_g (in_t1 (List.mem_of_getElem? (i := 50) rfl)) rfl
theorem wU_X0 : Cond.instantiable RX0 4 ∈ lw_gt := in_g (in_t1 (List.mem_of_getElem? (i := 51) rfl)) rfl
theorem wM_X6_18 : Cond.methodLink RX6 18 yX0_init ∈ lw_gt := in_g (in_t1 (List.mem_of_getElem? (i := 52) rfl)) rfl
theorem wI_X0_init : Cond.instanceMethod yX0_init ∈ lw_gt := in_g (in_t1 (List.mem_of_getElem? (i := 53) rfl)) rfl
theorem wC_X0_init : Cond.code yX0_init prog_2_method_1_code 2 (Option.none : Option FieldType) ∈ lw_gt := in_g (in_t1 (List.mem_of_getElem? (i := 54) rfl)) rfl
theorem wM_X0_3 : Cond.methodLink RX0 3 objectInit ∈ lw_gt := in_g (in_t1 (List.mem_of_getElem? (i := 55) rfl)) rfl
theorem wK_X0_9 : Cond.classLink RX0 9 RX2 ∈ lw_gt := in_g (in_t1 (List.mem_of_getElem? (i := 56) rfl)) rfl
theorem wU_X2 : Cond.instantiable RX2 9 ∈ lw_gt := in_g (in_t1 (List.mem_of_getElem? (i := 57) rfl)) rfl
theorem wO_X0_11 : Cond.methodLinkNest RX0 11 yX2_init "CopierJobs" ∈ lw_nt := in_n (in_t1 (List.mem_of_getElem? (i := 58) rfl)) rfl
theorem wI_X2_init : Cond.instanceMethod yX2_init ∈ lw_gt := in_g (in_t1 (List.mem_of_getElem? (i := 59) rfl)) rfl
theorem wC_X2_init : Cond.code yX2_init prog_4_method_1_code 1 (Option.none : Option FieldType) ∈ lw_gt := in_g (in_t1 (List.mem_of_getElem? (i := 60) rfl)) rfl
theorem wM_X2_3 : Cond.methodLink RX2 3 objectInit ∈ lw_gt := in_g (in_t1 (List.mem_of_getElem? (i := 61) rfl)) rfl
theorem wF_X2_27 : Cond.fieldLink RX2 27 "CopierJobs$Now" "tick" "I" ∈ lw_gt := in_g (in_t1 (List.mem_of_getElem? (i := 62) rfl)) rfl
theorem wG_X6_164 : Cond.fieldLinkNest RX6 164 "CopierJobs$Now" "tick" "I" "CopierJobs" ∈ lw_nt := in_n (in_t1 (List.mem_of_getElem? (i := 63) rfl)) rfl
theorem wF_X2_36 : Cond.fieldLink RX2 36 "CopierJobs$Now" "toner" "I" ∈ lw_gt := in_g (in_t1 (List.mem_of_getElem? (i := 64) rfl)) rfl
theorem wG_X6_196 : Cond.fieldLinkNest RX6 196 "CopierJobs$Now" "toner" "I" "CopierJobs" ∈ lw_nt := in_n (in_t1 (List.mem_of_getElem? (i := 65) rfl)) rfl
theorem wF_X2_37 : Cond.fieldLink RX2 37 "CopierJobs$Now" "half" "Z" ∈ lw_gt := in_g (in_t1 (List.mem_of_getElem? (i := 66) rfl)) rfl
theorem wG_X6_209 : Cond.fieldLinkNest RX6 209 "CopierJobs$Now" "half" "Z" "CopierJobs" ∈ lw_nt := in_n (in_t1 (List.mem_of_getElem? (i := 67) rfl)) rfl
theorem wF_X2_44 : Cond.fieldLink RX2 44 "CopierJobs$Now" "queued" "I" ∈ lw_gt := in_g (in_t1 (List.mem_of_getElem? (i := 68) rfl)) rfl
theorem wG_X6_184 : Cond.fieldLinkNest RX6 184 "CopierJobs$Now" "queued" "I" "CopierJobs" ∈ lw_nt := in_n (in_t1 (List.mem_of_getElem? (i := 69) rfl)) rfl
theorem wF_X2_9 : Cond.fieldLink RX2 9 "CopierJobs$Now" "queue" "[I" ∈ lw_gt := in_g (in_t1 (List.mem_of_getElem? (i := 70) rfl)) rfl
theorem wF_X2_15 : Cond.fieldLink RX2 15 "CopierJobs$Now" "made" "[I" ∈ lw_gt := in_g (in_t1 (List.mem_of_getElem? (i := 71) rfl)) rfl
theorem wF_X2_18 : Cond.fieldLink RX2 18 "CopierJobs$Now" "ends" "[I" ∈ lw_gt := in_g (in_t1 (List.mem_of_getElem? (i := 72) rfl)) rfl
theorem wF_X2_21 : Cond.fieldLink RX2 21 "CopierJobs$Now" "trays" "[I" ∈ lw_gt := in_g (in_t1 (List.mem_of_getElem? (i := 73) rfl)) rfl
theorem wG_X6_147 : Cond.fieldLinkNest RX6 147 "CopierJobs$Now" "trays" "[I" "CopierJobs" ∈ lw_nt := in_n (in_t1 (List.mem_of_getElem? (i := 74) rfl)) rfl
theorem wF_X2_24 : Cond.fieldLink RX2 24 "CopierJobs$Now" "bins" "[I" ∈ lw_gt := in_g (in_t1 (List.mem_of_getElem? (i := 75) rfl)) rfl
theorem wG_X6_161 : Cond.fieldLinkNest RX6 161 "CopierJobs$Now" "bins" "[I" "CopierJobs" ∈ lw_nt := in_n (in_t1 (List.mem_of_getElem? (i := 76) rfl)) rfl
theorem wL_X2_tick : Cond.lays RX2 "CopierJobs$Now" "tick" "I" ∈ lw_gt := in_g (in_t1 (List.mem_of_getElem? (i := 77) rfl)) rfl
theorem wL_X2_toner : Cond.lays RX2 "CopierJobs$Now" "toner" "I" ∈ lw_gt := in_g (in_t1 (List.mem_of_getElem? (i := 79) rfl)) rfl
theorem wL_X2_half : Cond.lays RX2 "CopierJobs$Now" "half" "Z" ∈ lw_gt := in_g (in_t1 (List.mem_of_getElem? (i := 81) rfl)) rfl
theorem wL_X2_queued : Cond.lays RX2 "CopierJobs$Now" "queued" "I" ∈ lw_gt := in_g (in_t1 (List.mem_of_getElem? (i := 83) rfl)) rfl
theorem wL_X2_queue : Cond.laysFinal RX2 "CopierJobs$Now" "queue" "[I" ∈ lw_gt := in_g (in_t1 (List.mem_of_getElem? (i := 85) rfl)) rfl
theorem wL_X2_made : Cond.laysFinal RX2 "CopierJobs$Now" "made" "[I" ∈ lw_gt := in_g (in_t1 (List.mem_of_getElem? (i := 87) rfl)) rfl
theorem wL_X2_ends : Cond.laysFinal RX2 "CopierJobs$Now" "ends" "[I" ∈ lw_gt := in_g (in_t1 (List.mem_of_getElem? (i := 89) rfl)) rfl
theorem wL_X2_trays : Cond.laysFinal RX2 "CopierJobs$Now" "trays" "[I" ∈ lw_gt := in_g (in_t1 (List.mem_of_getElem? (i := 91) rfl)) rfl
theorem wL_X2_bins : Cond.laysFinal RX2 "CopierJobs$Now" "bins" "[I" ∈ lw_gt := in_g (in_t1 (List.mem_of_getElem? (i := 93) rfl)) rfl
theorem wF_X0_12 : Cond.fieldLink RX0 12 "CopierJobs$Course" "now" "LCopierJobs$Now;" ∈ lw_gt := in_g (in_t1 (List.mem_of_getElem? (i := 97) rfl)) rfl
theorem wG_X6_104 : Cond.fieldLinkNest RX6 104 "CopierJobs$Course" "now" "LCopierJobs$Now;" "CopierJobs" ∈ lw_nt := in_n (in_t1 (List.mem_of_getElem? (i := 98) rfl)) rfl
theorem wF_X0_18 : Cond.fieldLink RX0 18 "CopierJobs$Course" "known" "[LCopierJobs$Now;" ∈ lw_gt := in_g (in_t1 (List.mem_of_getElem? (i := 99) rfl)) rfl
theorem wF_X0_26 : Cond.fieldLink RX0 26 "CopierJobs$Course" "oldest" "I" ∈ lw_gt := in_g (in_t1 (List.mem_of_getElem? (i := 100) rfl)) rfl
theorem wF_X0_30 : Cond.fieldLink RX0 30 "CopierJobs$Course" "knownCount" "I" ∈ lw_gt := in_g (in_t1 (List.mem_of_getElem? (i := 101) rfl)) rfl
theorem wG_X6_199 : Cond.fieldLinkNest RX6 199 "CopierJobs$Course" "knownCount" "I" "CopierJobs" ∈ lw_nt := in_n (in_t1 (List.mem_of_getElem? (i := 102) rfl)) rfl
theorem wL_X0_now : Cond.laysFinal RX0 "CopierJobs$Course" "now" "LCopierJobs$Now;" ∈ lw_gt := in_g (in_t1 (List.mem_of_getElem? (i := 103) rfl)) rfl
theorem wL_X0_known : Cond.laysFinal RX0 "CopierJobs$Course" "known" "[LCopierJobs$Now;" ∈ lw_gt := in_g (in_t1 (List.mem_of_getElem? (i := 105) rfl)) rfl
theorem wL_X0_oldest : Cond.lays RX0 "CopierJobs$Course" "oldest" "I" ∈ lw_gt := in_g (in_t1 (List.mem_of_getElem? (i := 107) rfl)) rfl
theorem wL_X0_knownCount : Cond.lays RX0 "CopierJobs$Course" "knownCount" "I" ∈ lw_gt := in_g (in_t1 (List.mem_of_getElem? (i := 109) rfl)) rfl
theorem wK_X6_23 : Cond.classLink RX6 23 RX2 ∈ lw_gt := in_g (in_t1 (List.mem_of_getElem? (i := 112) rfl)) rfl
theorem wO_X6_25 : Cond.methodLinkNest RX6 25 yX2_init "CopierJobs" ∈ lw_nt := in_n (in_t1 (List.mem_of_getElem? (i := 113) rfl)) rfl
theorem wK_X6_30 : Cond.classLink RX6 30 RX4 ∈ lw_gt := in_g (in_t1 (List.mem_of_getElem? (i := 114) rfl)) rfl
theorem wU_X4 : Cond.instantiable RX4 5 ∈ lw_gt := in_g (in_t1 (List.mem_of_getElem? (i := 115) rfl)) rfl
theorem wO_X6_32 : Cond.methodLinkNest RX6 32 yX4_init "CopierJobs" ∈ lw_nt := in_n (in_t1 (List.mem_of_getElem? (i := 116) rfl)) rfl
theorem wI_X4_init : Cond.instanceMethod yX4_init ∈ lw_gt := in_g (in_t1 (List.mem_of_getElem? (i := 117) rfl)) rfl
theorem wC_X4_init : Cond.code yX4_init prog_6_method_1_code 1 (Option.none : Option FieldType) ∈ lw_gt := in_g (in_t1 (List.mem_of_getElem? (i := 118) rfl)) rfl
theorem wM_X4_3 : Cond.methodLink RX4 3 objectInit ∈ lw_gt := in_g (in_t1 (List.mem_of_getElem? (i := 119) rfl)) rfl
theorem wF_X4_9 : Cond.fieldLink RX4 9 "CopierJobs$Seen" "sheets" "[I" ∈ lw_gt := in_g (in_t1 (List.mem_of_getElem? (i := 120) rfl)) rfl
theorem wF_X4_15 : Cond.fieldLink RX4 15 "CopierJobs$Seen" "pages" "[I" ∈ lw_gt := in_g (in_t1 (List.mem_of_getElem? (i := 121) rfl)) rfl
theorem wF_X4_18 : Cond.fieldLink RX4 18 "CopierJobs$Seen" "there" "[I" ∈ lw_gt := in_g (in_t1 (List.mem_of_getElem? (i := 122) rfl)) rfl
theorem wF_X4_24 : Cond.fieldLink RX4 24 "CopierJobs$Seen" "size" "I" ∈ lw_gt := in_g (in_t1 (List.mem_of_getElem? (i := 123) rfl)) rfl
theorem wG_X6_227 : Cond.fieldLinkNest RX6 227 "CopierJobs$Seen" "size" "I" "CopierJobs" ∈ lw_nt := in_n (in_t1 (List.mem_of_getElem? (i := 124) rfl)) rfl
theorem wF_X4_21 : Cond.fieldLink RX4 21 "CopierJobs$Seen" "withFront" "[I" ∈ lw_gt := in_g (in_t1 (List.mem_of_getElem? (i := 125) rfl)) rfl
theorem wG_X6_245 : Cond.fieldLinkNest RX6 245 "CopierJobs$Seen" "withFront" "[I" "CopierJobs" ∈ lw_nt := in_n (in_t1 (List.mem_of_getElem? (i := 126) rfl)) rfl
theorem wL_X4_sheets : Cond.laysFinal RX4 "CopierJobs$Seen" "sheets" "[I" ∈ lw_gt := in_g (in_t1 (List.mem_of_getElem? (i := 127) rfl)) rfl
theorem wL_X4_pages : Cond.laysFinal RX4 "CopierJobs$Seen" "pages" "[I" ∈ lw_gt := in_g (in_t1 (List.mem_of_getElem? (i := 129) rfl)) rfl
theorem wL_X4_there : Cond.laysFinal RX4 "CopierJobs$Seen" "there" "[I" ∈ lw_gt := in_g (in_t1 (List.mem_of_getElem? (i := 131) rfl)) rfl
theorem wL_X4_size : Cond.lays RX4 "CopierJobs$Seen" "size" "I" ∈ lw_gt := in_g (in_t1 (List.mem_of_getElem? (i := 133) rfl)) rfl
theorem wL_X4_withFront : Cond.laysFinal RX4 "CopierJobs$Seen" "withFront" "[I" ∈ lw_gt := in_g (in_t1 (List.mem_of_getElem? (i := 135) rfl)) rfl
theorem wK_X6_45 : Cond.classLink RX6 45 RX3 ∈ lw_gt := in_g (in_t1 (List.mem_of_getElem? (i := 139) rfl)) rfl
theorem wU_X3 : Cond.instantiable RX3 9 ∈ lw_gt := in_g (in_t1 (List.mem_of_getElem? (i := 140) rfl)) rfl
theorem wM_X6_47 : Cond.methodLink RX6 47 yX3_init ∈ lw_gt := in_g (in_t1 (List.mem_of_getElem? (i := 141) rfl)) rfl
theorem wI_X3_init : Cond.instanceMethod yX3_init ∈ lw_gt := in_g (in_t1 (List.mem_of_getElem? (i := 142) rfl)) rfl
theorem wC_X3_init : Cond.code yX3_init prog_5_method_1_code 2 (Option.none : Option FieldType) ∈ lw_gt := in_g (in_t1 (List.mem_of_getElem? (i := 143) rfl)) rfl
theorem wM_X3_3 : Cond.methodLink RX3 3 objectInit ∈ lw_gt := in_g (in_t1 (List.mem_of_getElem? (i := 144) rfl)) rfl
theorem wK_X3_15 : Cond.classLink RX3 15 RX1 ∈ lw_gt := in_g (in_t1 (List.mem_of_getElem? (i := 145) rfl)) rfl
theorem wG_X3_21 : Cond.fieldLinkNest RX3 21 "CopierJobs" "JOB_LEAST" "[I" "CopierJobs" ∈ lw_nt := in_n (in_t1 (List.mem_of_getElem? (i := 147) rfl)) rfl
theorem wU_X1 : Cond.instantiable RX1 7 ∈ lw_gt := in_g (in_t1 (List.mem_of_getElem? (i := 149) rfl)) rfl
theorem wO_X3_27 : Cond.methodLinkNest RX3 27 yX1_init "CopierJobs" ∈ lw_nt := in_n (in_t1 (List.mem_of_getElem? (i := 150) rfl)) rfl
theorem wI_X1_init : Cond.instanceMethod yX1_init ∈ lw_gt := in_g (in_t1 (List.mem_of_getElem? (i := 151) rfl)) rfl
theorem wC_X1_init : Cond.code yX1_init prog_3_method_1_code 1 (Option.none : Option FieldType) ∈ lw_gt := in_g (in_t1 (List.mem_of_getElem? (i := 152) rfl)) rfl
theorem wM_X1_1 : Cond.methodLink RX1 1 objectInit ∈ lw_gt := in_g (in_t1 (List.mem_of_getElem? (i := 153) rfl)) rfl
theorem wF_X1_7 : Cond.fieldLink RX1 7 "CopierJobs$Job" "pages" "I" ∈ lw_gt := in_g (in_t1 (List.mem_of_getElem? (i := 154) rfl)) rfl
theorem wG_X6_82 : Cond.fieldLinkNest RX6 82 "CopierJobs$Job" "pages" "I" "CopierJobs" ∈ lw_nt := in_n (in_t1 (List.mem_of_getElem? (i := 155) rfl)) rfl
theorem wF_X1_13 : Cond.fieldLink RX1 13 "CopierJobs$Job" "copies" "I" ∈ lw_gt := in_g (in_t1 (List.mem_of_getElem? (i := 156) rfl)) rfl
theorem wG_X6_88 : Cond.fieldLinkNest RX6 88 "CopierJobs$Job" "copies" "I" "CopierJobs" ∈ lw_nt := in_n (in_t1 (List.mem_of_getElem? (i := 157) rfl)) rfl
theorem wF_X1_28 : Cond.fieldLink RX1 28 "CopierJobs$Job" "both" "Z" ∈ lw_gt := in_g (in_t1 (List.mem_of_getElem? (i := 158) rfl)) rfl
theorem wG_X6_91 : Cond.fieldLinkNest RX6 91 "CopierJobs$Job" "both" "Z" "CopierJobs" ∈ lw_nt := in_n (in_t1 (List.mem_of_getElem? (i := 159) rfl)) rfl
theorem wF_X1_32 : Cond.fieldLink RX1 32 "CopierJobs$Job" "sorted" "Z" ∈ lw_gt := in_g (in_t1 (List.mem_of_getElem? (i := 160) rfl)) rfl
theorem wG_X3_57 : Cond.fieldLinkNest RX3 57 "CopierJobs$Job" "sorted" "Z" "CopierJobs" ∈ lw_nt := in_n (in_t1 (List.mem_of_getElem? (i := 161) rfl)) rfl
theorem wG_X6_95 : Cond.fieldLinkNest RX6 95 "CopierJobs$Job" "sorted" "Z" "CopierJobs" ∈ lw_nt := in_n (in_t1 (List.mem_of_getElem? (i := 162) rfl)) rfl
theorem wF_X1_35 : Cond.fieldLink RX1 35 "CopierJobs$Job" "tray" "I" ∈ lw_gt := in_g (in_t1 (List.mem_of_getElem? (i := 163) rfl)) rfl
theorem wG_X6_98 : Cond.fieldLinkNest RX6 98 "CopierJobs$Job" "tray" "I" "CopierJobs" ∈ lw_nt := in_n (in_t1 (List.mem_of_getElem? (i := 164) rfl)) rfl
theorem wG_X2_81 : Cond.fieldLinkNest RX2 81 "CopierJobs$Job" "tray" "I" "CopierJobs" ∈ lw_nt := in_n (in_t1 (List.mem_of_getElem? (i := 165) rfl)) rfl
theorem wF_X1_16 : Cond.fieldLink RX1 16 "CopierJobs$Job" "leaves" "I" ∈ lw_gt := in_g (in_t1 (List.mem_of_getElem? (i := 166) rfl)) rfl
theorem wF_X1_19 : Cond.fieldLink RX1 19 "CopierJobs$Job" "run" "I" ∈ lw_gt := in_g (in_t1 (List.mem_of_getElem? (i := 167) rfl)) rfl
theorem wL_X1_pages : Cond.lays RX1 "CopierJobs$Job" "pages" "I" ∈ lw_gt := in_g (in_t1 (List.mem_of_getElem? (i := 168) rfl)) rfl
theorem wL_X1_copies : Cond.lays RX1 "CopierJobs$Job" "copies" "I" ∈ lw_gt := in_g (in_t1 (List.mem_of_getElem? (i := 170) rfl)) rfl
theorem wL_X1_both : Cond.lays RX1 "CopierJobs$Job" "both" "Z" ∈ lw_gt := in_g (in_t1 (List.mem_of_getElem? (i := 172) rfl)) rfl
theorem wL_X1_sorted : Cond.lays RX1 "CopierJobs$Job" "sorted" "Z" ∈ lw_gt := in_g (in_t1 (List.mem_of_getElem? (i := 174) rfl)) rfl
theorem wL_X1_tray : Cond.lays RX1 "CopierJobs$Job" "tray" "I" ∈ lw_gt := in_g (in_t1 (List.mem_of_getElem? (i := 176) rfl)) rfl
theorem wL_X1_leaves : Cond.lays RX1 "CopierJobs$Job" "leaves" "I" ∈ lw_gt := in_g (in_t1 (List.mem_of_getElem? (i := 178) rfl)) rfl
theorem wL_X1_run : Cond.lays RX1 "CopierJobs$Job" "run" "I" ∈ lw_gt := in_g (in_t1 (List.mem_of_getElem? (i := 180) rfl)) rfl
theorem wM_X3_28 : Cond.methodLink RX3 28 yX3_untell ∈ lw_gt := in_g (in_t1 (List.mem_of_getElem? (i := 184) rfl)) rfl
theorem wI_X3_untell : Cond.instanceMethod yX3_untell ∈ lw_gt := in_g (in_t1 (List.mem_of_getElem? (i := 186) rfl)) rfl
theorem wC_X3_untell : Cond.code yX3_untell prog_5_method_2_code 1 (Option.none : Option FieldType) ∈ lw_gt := in_g (in_t1 (List.mem_of_getElem? (i := 187) rfl)) rfl
theorem wM_X3_31 : Cond.methodLink RX3 31 yJ7_fill_53178 ∈ lw_gt := in_g (in_t1 (List.mem_of_getElem? (i := 188) rfl)) rfl
theorem wT_J7_fill_53178 : Cond.static yJ7_fill_53178 ∈ lw_gt := in_g (in_t1 (List.mem_of_getElem? (i := 189) rfl)) rfl
theorem wC_J7_fill_53178 : Cond.code yJ7_fill_53178 prog_12_method_103_code 4 (Option.none : Option FieldType) ∈ lw_gt := in_g (in_t1 (List.mem_of_getElem? (i := 190) rfl)) rfl
theorem wF_X3_9 : Cond.fieldLink RX3 9 "CopierJobs$Plan" "trays" "[I" ∈ lw_gt := in_g (in_t1 (List.mem_of_getElem? (i := 191) rfl)) rfl
theorem wG_X2_53 : Cond.fieldLinkNest RX2 53 "CopierJobs$Plan" "trays" "[I" "CopierJobs" ∈ lw_nt := in_n (in_t1 (List.mem_of_getElem? (i := 192) rfl)) rfl
theorem wG_X2_31 : Cond.fieldLinkNest RX2 31 "CopierJobs$Plan" "toner" "I" "CopierJobs" ∈ lw_nt := in_n (in_t1 (List.mem_of_getElem? (i := 193) rfl)) rfl
theorem wF_X3_37 : Cond.fieldLink RX3 37 "CopierJobs$Plan" "toner" "I" ∈ lw_gt := in_g (in_t1 (List.mem_of_getElem? (i := 194) rfl)) rfl
theorem wF_X3_41 : Cond.fieldLink RX3 41 "CopierJobs$Plan" "bins" "I" ∈ lw_gt := in_g (in_t1 (List.mem_of_getElem? (i := 195) rfl)) rfl
theorem wG_X6_267 : Cond.fieldLinkNest RX6 267 "CopierJobs$Plan" "bins" "I" "CopierJobs" ∈ lw_nt := in_n (in_t1 (List.mem_of_getElem? (i := 196) rfl)) rfl
theorem wF_X3_17 : Cond.fieldLink RX3 17 "CopierJobs$Plan" "jobs" "[LCopierJobs$Job;" ∈ lw_gt := in_g (in_t1 (List.mem_of_getElem? (i := 197) rfl)) rfl
theorem wG_X2_41 : Cond.fieldLinkNest RX2 41 "CopierJobs$Plan" "jobCount" "I" "CopierJobs" ∈ lw_nt := in_n (in_t1 (List.mem_of_getElem? (i := 198) rfl)) rfl
theorem wF_X3_44 : Cond.fieldLink RX3 44 "CopierJobs$Plan" "jobCount" "I" ∈ lw_gt := in_g (in_t1 (List.mem_of_getElem? (i := 199) rfl)) rfl
theorem wG_X4_32 : Cond.fieldLinkNest RX4 32 "CopierJobs$Plan" "jobCount" "I" "CopierJobs" ∈ lw_nt := in_n (in_t1 (List.mem_of_getElem? (i := 200) rfl)) rfl
theorem wG_X6_269 : Cond.fieldLinkNest RX6 269 "CopierJobs$Plan" "jobCount" "I" "CopierJobs" ∈ lw_nt := in_n (in_t1 (List.mem_of_getElem? (i := 201) rfl)) rfl
theorem wF_X3_24 : Cond.fieldLink RX3 24 "CopierJobs$Plan" "numbers" "[I" ∈ lw_gt := in_g (in_t1 (List.mem_of_getElem? (i := 202) rfl)) rfl
theorem wF_X3_47 : Cond.fieldLink RX3 47 "CopierJobs$Plan" "traysTold" "Z" ∈ lw_gt := in_g (in_t1 (List.mem_of_getElem? (i := 203) rfl)) rfl
theorem wF_X3_51 : Cond.fieldLink RX3 51 "CopierJobs$Plan" "tonerTold" "Z" ∈ lw_gt := in_g (in_t1 (List.mem_of_getElem? (i := 204) rfl)) rfl
theorem wF_X3_54 : Cond.fieldLink RX3 54 "CopierJobs$Plan" "binsTold" "Z" ∈ lw_gt := in_g (in_t1 (List.mem_of_getElem? (i := 205) rfl)) rfl
theorem wL_X3_trays : Cond.laysFinal RX3 "CopierJobs$Plan" "trays" "[I" ∈ lw_gt := in_g (in_t1 (List.mem_of_getElem? (i := 206) rfl)) rfl
theorem wL_X3_toner : Cond.lays RX3 "CopierJobs$Plan" "toner" "I" ∈ lw_gt := in_g (in_t1 (List.mem_of_getElem? (i := 208) rfl)) rfl
theorem wL_X3_bins : Cond.lays RX3 "CopierJobs$Plan" "bins" "I" ∈ lw_gt := in_g (in_t1 (List.mem_of_getElem? (i := 210) rfl)) rfl
theorem wL_X3_jobs : Cond.laysFinal RX3 "CopierJobs$Plan" "jobs" "[LCopierJobs$Job;" ∈ lw_gt := in_g (in_t1 (List.mem_of_getElem? (i := 212) rfl)) rfl
theorem wL_X3_jobCount : Cond.lays RX3 "CopierJobs$Plan" "jobCount" "I" ∈ lw_gt := in_g (in_t1 (List.mem_of_getElem? (i := 214) rfl)) rfl
theorem wL_X3_numbers : Cond.laysFinal RX3 "CopierJobs$Plan" "numbers" "[I" ∈ lw_gt := in_g (in_t1 (List.mem_of_getElem? (i := 216) rfl)) rfl
theorem wL_X3_traysTold : Cond.lays RX3 "CopierJobs$Plan" "traysTold" "Z" ∈ lw_gt := in_g (in_t1 (List.mem_of_getElem? (i := 218) rfl)) rfl
theorem wL_X3_tonerTold : Cond.lays RX3 "CopierJobs$Plan" "tonerTold" "Z" ∈ lw_gt := in_g (in_t1 (List.mem_of_getElem? (i := 220) rfl)) rfl
theorem wL_X3_binsTold : Cond.lays RX3 "CopierJobs$Plan" "binsTold" "Z" ∈ lw_gt := in_g (in_t1 (List.mem_of_getElem? (i := 222) rfl)) rfl
theorem wM_X6_55 : Cond.methodLink RX6 55 yX0_begin ∈ lw_gt := in_g (in_t1 (List.mem_of_getElem? (i := 225) rfl)) rfl
theorem wI_X0_begin : Cond.instanceMethod yX0_begin ∈ lw_gt := in_g (in_t1 (List.mem_of_getElem? (i := 226) rfl)) rfl
theorem wS_X0_begin : Cond.selects RX0 yX0_begin yX0_begin ∈ lw_gt := in_g (in_t1 (List.mem_of_getElem? (i := 227) rfl)) rfl
theorem wC_X0_begin : Cond.code yX0_begin prog_2_method_2_code 2 (Option.none : Option FieldType) ∈ lw_gt := in_g (in_t1 (List.mem_of_getElem? (i := 228) rfl)) rfl
theorem wM_X0_22 : Cond.methodLink RX0 22 yX2_begin ∈ lw_gt := in_g (in_t1 (List.mem_of_getElem? (i := 229) rfl)) rfl
theorem wI_X2_begin : Cond.instanceMethod yX2_begin ∈ lw_gt := in_g (in_t1 (List.mem_of_getElem? (i := 230) rfl)) rfl
theorem wS_X2_begin : Cond.selects RX2 yX2_begin yX2_begin ∈ lw_gt := in_g (in_t1 (List.mem_of_getElem? (i := 231) rfl)) rfl
theorem wC_X2_begin : Cond.code yX2_begin prog_4_method_2_code 3 (Option.none : Option FieldType) ∈ lw_gt := in_g (in_t1 (List.mem_of_getElem? (i := 232) rfl)) rfl
theorem wM_X2_47 : Cond.methodLink RX2 47 yJ7_fill_53178 ∈ lw_gt := in_g (in_t1 (List.mem_of_getElem? (i := 233) rfl)) rfl
theorem wO_X2_54 : Cond.methodLinkNest RX2 54 yX6_copyRow "CopierJobs" ∈ lw_nt := in_n (in_t1 (List.mem_of_getElem? (i := 234) rfl)) rfl
theorem wT_X6_copyRow : Cond.static yX6_copyRow ∈ lw_gt := in_g (in_t1 (List.mem_of_getElem? (i := 235) rfl)) rfl
theorem wC_X6_copyRow : Cond.code yX6_copyRow prog_1_method_35_code 3 (Option.none : Option FieldType) ∈ lw_gt := in_g (in_t1 (List.mem_of_getElem? (i := 236) rfl)) rfl
theorem wF_X6_10 : Cond.fieldLink RX6 10 "CopierJobs" "text" "LCopierJobs$Text;" ∈ lw_gt := in_g (in_t1 (List.mem_of_getElem? (i := 237) rfl)) rfl
theorem wF_X6_19 : Cond.fieldLink RX6 19 "CopierJobs" "course" "LCopierJobs$Course;" ∈ lw_gt := in_g (in_t1 (List.mem_of_getElem? (i := 238) rfl)) rfl
theorem wF_X6_26 : Cond.fieldLink RX6 26 "CopierJobs" "trial" "LCopierJobs$Now;" ∈ lw_gt := in_g (in_t1 (List.mem_of_getElem? (i := 239) rfl)) rfl
theorem wF_X6_33 : Cond.fieldLink RX6 33 "CopierJobs" "seen" "LCopierJobs$Seen;" ∈ lw_gt := in_g (in_t2 (List.mem_of_getElem? (i := 0) rfl)) rfl
theorem wF_X6_37 : Cond.fieldLink RX6 37 "CopierJobs" "images" "[LCopierJobs$Course;" ∈ lw_gt := in_g (in_t2 (List.mem_of_getElem? (i := 1) rfl)) rfl
theorem wF_X6_41 : Cond.fieldLink RX6 41 "CopierJobs" "kept" "[Z" ∈ lw_gt := in_g (in_t2 (List.mem_of_getElem? (i := 2) rfl)) rfl
theorem wF_X6_48 : Cond.fieldLink RX6 48 "CopierJobs" "plan" "LCopierJobs$Plan;" ∈ lw_gt := in_g (in_t2 (List.mem_of_getElem? (i := 3) rfl)) rfl
theorem wF_X6_52 : Cond.fieldLink RX6 52 "CopierJobs" "nextPlan" "LCopierJobs$Plan;" ∈ lw_gt := in_g (in_t2 (List.mem_of_getElem? (i := 4) rfl)) rfl
theorem wF_X6_275 : Cond.fieldLink RX6 275 "CopierJobs" "traced" "J" ∈ lw_gt := in_g (in_t2 (List.mem_of_getElem? (i := 5) rfl)) rfl
theorem wL_X6_text : Cond.laysFinal RX6 "CopierJobs" "text" "LCopierJobs$Text;" ∈ lw_gt := in_g (in_t2 (List.mem_of_getElem? (i := 6) rfl)) rfl
theorem wL_X6_course : Cond.laysFinal RX6 "CopierJobs" "course" "LCopierJobs$Course;" ∈ lw_gt := in_g (in_t2 (List.mem_of_getElem? (i := 8) rfl)) rfl
theorem wL_X6_trial : Cond.laysFinal RX6 "CopierJobs" "trial" "LCopierJobs$Now;" ∈ lw_gt := in_g (in_t2 (List.mem_of_getElem? (i := 10) rfl)) rfl
theorem wL_X6_seen : Cond.laysFinal RX6 "CopierJobs" "seen" "LCopierJobs$Seen;" ∈ lw_gt := in_g (in_t2 (List.mem_of_getElem? (i := 12) rfl)) rfl
theorem wL_X6_images : Cond.laysFinal RX6 "CopierJobs" "images" "[LCopierJobs$Course;" ∈ lw_gt := in_g (in_t2 (List.mem_of_getElem? (i := 14) rfl)) rfl
theorem wL_X6_kept : Cond.laysFinal RX6 "CopierJobs" "kept" "[Z" ∈ lw_gt := in_g (in_t2 (List.mem_of_getElem? (i := 16) rfl)) rfl
theorem wL_X6_plan : Cond.lays RX6 "CopierJobs" "plan" "LCopierJobs$Plan;" ∈ lw_gt := in_g (in_t2 (List.mem_of_getElem? (i := 18) rfl)) rfl
theorem wL_X6_nextPlan : Cond.lays RX6 "CopierJobs" "nextPlan" "LCopierJobs$Plan;" ∈ lw_gt := in_g (in_t2 (List.mem_of_getElem? (i := 20) rfl)) rfl
theorem wL_X6_traced : Cond.lays RX6 "CopierJobs" "traced" "J" ∈ lw_gt := in_g (in_t2 (List.mem_of_getElem? (i := 22) rfl)) rfl
theorem wM_L_13 : Cond.methodLink RL 13 yX6_type ∈ lw_gt := in_g (in_t2 (List.mem_of_getElem? (i := 25) rfl)) rfl
theorem wI_X6_type : Cond.instanceMethod yX6_type ∈ lw_gt := in_g (in_t2 (List.mem_of_getElem? (i := 26) rfl)) rfl
theorem wS_X6_type : Cond.selects RX6 yX6_type yX6_type ∈ lw_gt := in_g (in_t2 (List.mem_of_getElem? (i := 27) rfl)) rfl
theorem wC_X6_type : Cond.code yX6_type prog_1_method_2_code 2 (Option.some FieldType.int) ∈ lw_gt := in_g (in_t2 (List.mem_of_getElem? (i := 28) rfl)) rfl
theorem wM_X6_59 : Cond.methodLink RX6 59 yX5_isFull ∈ lw_gt := in_g (in_t2 (List.mem_of_getElem? (i := 29) rfl)) rfl
theorem wI_X5_isFull : Cond.instanceMethod yX5_isFull ∈ lw_gt := in_g (in_t2 (List.mem_of_getElem? (i := 30) rfl)) rfl
theorem wS_X5_isFull : Cond.selects RX5 yX5_isFull yX5_isFull ∈ lw_gt := in_g (in_t2 (List.mem_of_getElem? (i := 31) rfl)) rfl
theorem wC_X5_isFull : Cond.code yX5_isFull prog_7_method_2_code 1 (Option.some FieldType.boolean) ∈ lw_gt := in_g (in_t2 (List.mem_of_getElem? (i := 32) rfl)) rfl
theorem wM_X6_63 : Cond.methodLink RX6 63 yX5_add ∈ lw_gt := in_g (in_t2 (List.mem_of_getElem? (i := 33) rfl)) rfl
theorem wI_X5_add : Cond.instanceMethod yX5_add ∈ lw_gt := in_g (in_t2 (List.mem_of_getElem? (i := 34) rfl)) rfl
theorem wS_X5_add : Cond.selects RX5 yX5_add yX5_add ∈ lw_gt := in_g (in_t2 (List.mem_of_getElem? (i := 35) rfl)) rfl
theorem wC_X5_add : Cond.code yX5_add prog_7_method_3_code 2 (Option.some FieldType.int) ∈ lw_gt := in_g (in_t2 (List.mem_of_getElem? (i := 36) rfl)) rfl
theorem wO_X5_19 : Cond.methodLinkNest RX5 19 yX6_put "CopierJobs" ∈ lw_nt := in_n (in_t2 (List.mem_of_getElem? (i := 37) rfl)) rfl
theorem wT_X6_put : Cond.static yX6_put ∈ lw_gt := in_g (in_t2 (List.mem_of_getElem? (i := 38) rfl)) rfl
theorem wC_X6_put : Cond.code yX6_put prog_1_method_34_code 3 (Option.none : Option FieldType) ∈ lw_gt := in_g (in_t2 (List.mem_of_getElem? (i := 39) rfl)) rfl
theorem wM_L_18 : Cond.methodLink RL 18 yX6_clear ∈ lw_gt := in_g (in_t2 (List.mem_of_getElem? (i := 40) rfl)) rfl
theorem wI_X6_clear : Cond.instanceMethod yX6_clear ∈ lw_gt := in_g (in_t2 (List.mem_of_getElem? (i := 41) rfl)) rfl
theorem wS_X6_clear : Cond.selects RX6 yX6_clear yX6_clear ∈ lw_gt := in_g (in_t2 (List.mem_of_getElem? (i := 42) rfl)) rfl
theorem wC_X6_clear : Cond.code yX6_clear prog_1_method_3_code 1 (Option.some FieldType.int) ∈ lw_gt := in_g (in_t2 (List.mem_of_getElem? (i := 43) rfl)) rfl
theorem wM_X6_67 : Cond.methodLink RX6 67 yX5_wipe ∈ lw_gt := in_g (in_t2 (List.mem_of_getElem? (i := 44) rfl)) rfl
theorem wI_X5_wipe : Cond.instanceMethod yX5_wipe ∈ lw_gt := in_g (in_t2 (List.mem_of_getElem? (i := 45) rfl)) rfl
theorem wS_X5_wipe : Cond.selects RX5 yX5_wipe yX5_wipe ∈ lw_gt := in_g (in_t2 (List.mem_of_getElem? (i := 46) rfl)) rfl
theorem wC_X5_wipe : Cond.code yX5_wipe prog_7_method_4_code 2 (Option.some FieldType.int) ∈ lw_gt := in_g (in_t2 (List.mem_of_getElem? (i := 47) rfl)) rfl
theorem wM_L_23 : Cond.methodLink RL 23 yX6_office ∈ lw_gt := in_g (in_t2 (List.mem_of_getElem? (i := 48) rfl)) rfl
theorem wI_X6_office : Cond.instanceMethod yX6_office ∈ lw_gt := in_g (in_t2 (List.mem_of_getElem? (i := 49) rfl)) rfl
theorem wS_X6_office : Cond.selects RX6 yX6_office yX6_office ∈ lw_gt := in_g (in_t2 (List.mem_of_getElem? (i := 50) rfl)) rfl
theorem wC_X6_office : Cond.code yX6_office prog_1_method_4_code 4 (Option.some FieldType.int) ∈ lw_gt := in_g (in_t2 (List.mem_of_getElem? (i := 51) rfl)) rfl
theorem wM_X6_71 : Cond.methodLink RX6 71 yX3_readFrom ∈ lw_gt := in_g (in_t2 (List.mem_of_getElem? (i := 52) rfl)) rfl
theorem wI_X3_readFrom : Cond.instanceMethod yX3_readFrom ∈ lw_gt := in_g (in_t2 (List.mem_of_getElem? (i := 53) rfl)) rfl
theorem wS_X3_readFrom : Cond.selects RX3 yX3_readFrom yX3_readFrom ∈ lw_gt := in_g (in_t2 (List.mem_of_getElem? (i := 54) rfl)) rfl
theorem wC_X3_readFrom : Cond.code yX3_readFrom prog_5_method_6_code 3 (Option.some FieldType.int) ∈ lw_gt := in_g (in_t2 (List.mem_of_getElem? (i := 55) rfl)) rfl
theorem wM_X3_67 : Cond.methodLink RX3 67 yX5_rewind ∈ lw_gt := in_g (in_t2 (List.mem_of_getElem? (i := 56) rfl)) rfl
theorem wI_X5_rewind : Cond.instanceMethod yX5_rewind ∈ lw_gt := in_g (in_t2 (List.mem_of_getElem? (i := 57) rfl)) rfl
theorem wS_X5_rewind : Cond.selects RX5 yX5_rewind yX5_rewind ∈ lw_gt := in_g (in_t2 (List.mem_of_getElem? (i := 58) rfl)) rfl
theorem wC_X5_rewind : Cond.code yX5_rewind prog_7_method_5_code 1 (Option.none : Option FieldType) ∈ lw_gt := in_g (in_t2 (List.mem_of_getElem? (i := 59) rfl)) rfl
theorem wM_X3_72 : Cond.methodLink RX3 72 yX5_readToken ∈ lw_gt := in_g (in_t2 (List.mem_of_getElem? (i := 60) rfl)) rfl
theorem wI_X5_readToken : Cond.instanceMethod yX5_readToken ∈ lw_gt := in_g (in_t2 (List.mem_of_getElem? (i := 61) rfl)) rfl
theorem wS_X5_readToken : Cond.selects RX5 yX5_readToken yX5_readToken ∈ lw_gt := in_g (in_t2 (List.mem_of_getElem? (i := 62) rfl)) rfl
theorem wC_X5_readToken : Cond.code yX5_readToken prog_7_method_6_code 2 (Option.none : Option FieldType) ∈ lw_gt := in_g (in_t2 (List.mem_of_getElem? (i := 63) rfl)) rfl
theorem wO_X5_26 : Cond.methodLinkNest RX5 26 yX6_at "CopierJobs" ∈ lw_nt := in_n (in_t2 (List.mem_of_getElem? (i := 64) rfl)) rfl
theorem wT_X6_at : Cond.static yX6_at ∈ lw_gt := in_g (in_t2 (List.mem_of_getElem? (i := 65) rfl)) rfl
theorem wC_X6_at : Cond.code yX6_at prog_1_method_33_code 2 (Option.some FieldType.int) ∈ lw_gt := in_g (in_t2 (List.mem_of_getElem? (i := 66) rfl)) rfl
theorem wM_X5_39 : Cond.methodLink RX5 39 yX5_isLetter ∈ lw_gt := in_g (in_t2 (List.mem_of_getElem? (i := 67) rfl)) rfl
theorem wT_X5_isLetter : Cond.static yX5_isLetter ∈ lw_gt := in_g (in_t2 (List.mem_of_getElem? (i := 68) rfl)) rfl
theorem wC_X5_isLetter : Cond.code yX5_isLetter prog_7_method_9_code 1 (Option.some FieldType.boolean) ∈ lw_gt := in_g (in_t2 (List.mem_of_getElem? (i := 69) rfl)) rfl
theorem wM_X5_43 : Cond.methodLink RX5 43 yX5_readLetters ∈ lw_gt := in_g (in_t2 (List.mem_of_getElem? (i := 70) rfl)) rfl
theorem wI_X5_readLetters : Cond.instanceMethod yX5_readLetters ∈ lw_gt := in_g (in_t2 (List.mem_of_getElem? (i := 72) rfl)) rfl
theorem wC_X5_readLetters : Cond.code yX5_readLetters prog_7_method_7_code 1 (Option.none : Option FieldType) ∈ lw_gt := in_g (in_t2 (List.mem_of_getElem? (i := 73) rfl)) rfl
theorem wM_X5_46 : Cond.methodLink RX5 46 yX5_isDigit ∈ lw_gt := in_g (in_t2 (List.mem_of_getElem? (i := 74) rfl)) rfl
theorem wT_X5_isDigit : Cond.static yX5_isDigit ∈ lw_gt := in_g (in_t2 (List.mem_of_getElem? (i := 75) rfl)) rfl
theorem wC_X5_isDigit : Cond.code yX5_isDigit prog_7_method_10_code 1 (Option.some FieldType.boolean) ∈ lw_gt := in_g (in_t2 (List.mem_of_getElem? (i := 76) rfl)) rfl
theorem wM_X5_49 : Cond.methodLink RX5 49 yX5_readNumber ∈ lw_gt := in_g (in_t2 (List.mem_of_getElem? (i := 77) rfl)) rfl
theorem wI_X5_readNumber : Cond.instanceMethod yX5_readNumber ∈ lw_gt := in_g (in_t2 (List.mem_of_getElem? (i := 79) rfl)) rfl
theorem wC_X5_readNumber : Cond.code yX5_readNumber prog_7_method_8_code 2 (Option.none : Option FieldType) ∈ lw_gt := in_g (in_t2 (List.mem_of_getElem? (i := 80) rfl)) rfl
theorem wM_X5_52 : Cond.methodLink RX5 52 yJ9_min_7cf53 ∈ lw_gt := in_g (in_t2 (List.mem_of_getElem? (i := 81) rfl)) rfl
theorem wT_J9_min_7cf53 : Cond.static yJ9_min_7cf53 ∈ lw_gt := in_g (in_t2 (List.mem_of_getElem? (i := 82) rfl)) rfl
theorem wC_J9_min_7cf53 : Cond.code yJ9_min_7cf53 prog_11_method_69_code 2 (Option.some FieldType.int) ∈ lw_gt := in_g (in_t2 (List.mem_of_getElem? (i := 83) rfl)) rfl
theorem wM_X3_78 : Cond.methodLink RX3 78 yX3_readItem ∈ lw_gt := in_g (in_t2 (List.mem_of_getElem? (i := 84) rfl)) rfl
theorem wI_X3_readItem : Cond.instanceMethod yX3_readItem ∈ lw_gt := in_g (in_t2 (List.mem_of_getElem? (i := 86) rfl)) rfl
theorem wC_X3_readItem : Cond.code yX3_readItem prog_5_method_7_code 2 (Option.some FieldType.boolean) ∈ lw_gt := in_g (in_t2 (List.mem_of_getElem? (i := 87) rfl)) rfl
theorem wG_X3_88 : Cond.fieldLinkNest RX3 88 "CopierJobs" "TRAYS_LEAST" "[I" "CopierJobs" ∈ lw_nt := in_n (in_t2 (List.mem_of_getElem? (i := 88) rfl)) rfl
theorem wG_X3_91 : Cond.fieldLinkNest RX3 91 "CopierJobs" "TRAYS_MOST" "[I" "CopierJobs" ∈ lw_nt := in_n (in_t2 (List.mem_of_getElem? (i := 90) rfl)) rfl
theorem wM_X3_94 : Cond.methodLink RX3 94 yX3_readNumbers ∈ lw_gt := in_g (in_t2 (List.mem_of_getElem? (i := 92) rfl)) rfl
theorem wI_X3_readNumbers : Cond.instanceMethod yX3_readNumbers ∈ lw_gt := in_g (in_t2 (List.mem_of_getElem? (i := 94) rfl)) rfl
theorem wC_X3_readNumbers : Cond.code yX3_readNumbers prog_5_method_8_code 5 (Option.some FieldType.boolean) ∈ lw_gt := in_g (in_t2 (List.mem_of_getElem? (i := 95) rfl)) rfl
theorem wO_X3_126 : Cond.methodLinkNest RX3 126 yX6_at "CopierJobs" ∈ lw_nt := in_n (in_t2 (List.mem_of_getElem? (i := 96) rfl)) rfl
theorem wO_X3_130 : Cond.methodLinkNest RX3 130 yX6_put "CopierJobs" ∈ lw_nt := in_n (in_t2 (List.mem_of_getElem? (i := 97) rfl)) rfl
theorem wM_X3_98 : Cond.methodLink RX3 98 yX3_tellTrays ∈ lw_gt := in_g (in_t2 (List.mem_of_getElem? (i := 98) rfl)) rfl
theorem wI_X3_tellTrays : Cond.instanceMethod yX3_tellTrays ∈ lw_gt := in_g (in_t2 (List.mem_of_getElem? (i := 100) rfl)) rfl
theorem wC_X3_tellTrays : Cond.code yX3_tellTrays prog_5_method_9_code 1 (Option.some FieldType.boolean) ∈ lw_gt := in_g (in_t2 (List.mem_of_getElem? (i := 101) rfl)) rfl
theorem wO_X3_134 : Cond.methodLinkNest RX3 134 yX6_copyRow "CopierJobs" ∈ lw_nt := in_n (in_t2 (List.mem_of_getElem? (i := 102) rfl)) rfl
theorem wG_X3_102 : Cond.fieldLinkNest RX3 102 "CopierJobs" "TONER_TOLD_LEAST" "[I" "CopierJobs" ∈ lw_nt := in_n (in_t2 (List.mem_of_getElem? (i := 103) rfl)) rfl
theorem wG_X3_105 : Cond.fieldLinkNest RX3 105 "CopierJobs" "TONER_TOLD_MOST" "[I" "CopierJobs" ∈ lw_nt := in_n (in_t2 (List.mem_of_getElem? (i := 105) rfl)) rfl
theorem wM_X3_108 : Cond.methodLink RX3 108 yX3_tellToner ∈ lw_gt := in_g (in_t2 (List.mem_of_getElem? (i := 107) rfl)) rfl
theorem wI_X3_tellToner : Cond.instanceMethod yX3_tellToner ∈ lw_gt := in_g (in_t2 (List.mem_of_getElem? (i := 109) rfl)) rfl
theorem wC_X3_tellToner : Cond.code yX3_tellToner prog_5_method_10_code 1 (Option.some FieldType.boolean) ∈ lw_gt := in_g (in_t2 (List.mem_of_getElem? (i := 110) rfl)) rfl
theorem wG_X3_111 : Cond.fieldLinkNest RX3 111 "CopierJobs" "BINS_TOLD_LEAST" "[I" "CopierJobs" ∈ lw_nt := in_n (in_t2 (List.mem_of_getElem? (i := 111) rfl)) rfl
theorem wG_X3_114 : Cond.fieldLinkNest RX3 114 "CopierJobs" "BINS_TOLD_MOST" "[I" "CopierJobs" ∈ lw_nt := in_n (in_t2 (List.mem_of_getElem? (i := 113) rfl)) rfl
theorem wM_X3_117 : Cond.methodLink RX3 117 yX3_tellBins ∈ lw_gt := in_g (in_t2 (List.mem_of_getElem? (i := 115) rfl)) rfl
theorem wI_X3_tellBins : Cond.instanceMethod yX3_tellBins ∈ lw_gt := in_g (in_t2 (List.mem_of_getElem? (i := 117) rfl)) rfl
theorem wC_X3_tellBins : Cond.code yX3_tellBins prog_5_method_11_code 1 (Option.some FieldType.boolean) ∈ lw_gt := in_g (in_t2 (List.mem_of_getElem? (i := 118) rfl)) rfl
theorem wG_X3_120 : Cond.fieldLinkNest RX3 120 "CopierJobs" "JOB_MOST" "[I" "CopierJobs" ∈ lw_nt := in_n (in_t2 (List.mem_of_getElem? (i := 119) rfl)) rfl
theorem wM_X3_123 : Cond.methodLink RX3 123 yX3_tellJob ∈ lw_gt := in_g (in_t2 (List.mem_of_getElem? (i := 121) rfl)) rfl
theorem wI_X3_tellJob : Cond.instanceMethod yX3_tellJob ∈ lw_gt := in_g (in_t2 (List.mem_of_getElem? (i := 123) rfl)) rfl
theorem wC_X3_tellJob : Cond.code yX3_tellJob prog_5_method_12_code 2 (Option.some FieldType.boolean) ∈ lw_gt := in_g (in_t2 (List.mem_of_getElem? (i := 124) rfl)) rfl
theorem wM_X3_138 : Cond.methodLink RX3 138 yX3_jobAt ∈ lw_gt := in_g (in_t2 (List.mem_of_getElem? (i := 125) rfl)) rfl
theorem wI_X3_jobAt : Cond.instanceMethod yX3_jobAt ∈ lw_gt := in_g (in_t2 (List.mem_of_getElem? (i := 126) rfl)) rfl
theorem wS_X3_jobAt : Cond.selects RX3 yX3_jobAt yX3_jobAt ∈ lw_gt := in_g (in_t2 (List.mem_of_getElem? (i := 127) rfl)) rfl
theorem wC_X3_jobAt : Cond.code yX3_jobAt prog_5_method_3_code 2 (Option.some (FieldType.object "CopierJobs$Job")) ∈ lw_gt := in_g (in_t2 (List.mem_of_getElem? (i := 128) rfl)) rfl
theorem wM_X3_142 : Cond.methodLink RX3 142 yX1_tell ∈ lw_gt := in_g (in_t2 (List.mem_of_getElem? (i := 129) rfl)) rfl
theorem wI_X1_tell : Cond.instanceMethod yX1_tell ∈ lw_gt := in_g (in_t2 (List.mem_of_getElem? (i := 130) rfl)) rfl
theorem wS_X1_tell : Cond.selects RX1 yX1_tell yX1_tell ∈ lw_gt := in_g (in_t2 (List.mem_of_getElem? (i := 131) rfl)) rfl
theorem wC_X1_tell : Cond.code yX1_tell prog_3_method_2_code 2 (Option.none : Option FieldType) ∈ lw_gt := in_g (in_t2 (List.mem_of_getElem? (i := 132) rfl)) rfl
theorem wO_X1_22 : Cond.methodLinkNest RX1 22 yX6_at "CopierJobs" ∈ lw_nt := in_n (in_t2 (List.mem_of_getElem? (i := 133) rfl)) rfl
theorem wM_X6_75 : Cond.methodLink RX6 75 yX4_forgetAll ∈ lw_gt := in_g (in_t2 (List.mem_of_getElem? (i := 134) rfl)) rfl
theorem wI_X4_forgetAll : Cond.instanceMethod yX4_forgetAll ∈ lw_gt := in_g (in_t2 (List.mem_of_getElem? (i := 135) rfl)) rfl
theorem wS_X4_forgetAll : Cond.selects RX4 yX4_forgetAll yX4_forgetAll ∈ lw_gt := in_g (in_t2 (List.mem_of_getElem? (i := 136) rfl)) rfl
theorem wC_X4_forgetAll : Cond.code yX4_forgetAll prog_6_method_3_code 2 (Option.some FieldType.int) ∈ lw_gt := in_g (in_t2 (List.mem_of_getElem? (i := 137) rfl)) rfl
theorem wM_L_27 : Cond.methodLink RL 27 yX6_job ∈ lw_gt := in_g (in_t2 (List.mem_of_getElem? (i := 138) rfl)) rfl
theorem wI_X6_job : Cond.instanceMethod yX6_job ∈ lw_gt := in_g (in_t2 (List.mem_of_getElem? (i := 139) rfl)) rfl
theorem wS_X6_job : Cond.selects RX6 yX6_job yX6_job ∈ lw_gt := in_g (in_t2 (List.mem_of_getElem? (i := 140) rfl)) rfl
theorem wC_X6_job : Cond.code yX6_job prog_1_method_5_code 4 (Option.some FieldType.int) ∈ lw_gt := in_g (in_t2 (List.mem_of_getElem? (i := 141) rfl)) rfl
theorem wM_X6_78 : Cond.methodLink RX6 78 yX3_jobAt ∈ lw_gt := in_g (in_t2 (List.mem_of_getElem? (i := 142) rfl)) rfl
theorem wM_X6_101 : Cond.methodLink RX6 101 yX1_all ∈ lw_gt := in_g (in_t2 (List.mem_of_getElem? (i := 143) rfl)) rfl
theorem wI_X1_all : Cond.instanceMethod yX1_all ∈ lw_gt := in_g (in_t2 (List.mem_of_getElem? (i := 144) rfl)) rfl
theorem wS_X1_all : Cond.selects RX1 yX1_all yX1_all ∈ lw_gt := in_g (in_t2 (List.mem_of_getElem? (i := 145) rfl)) rfl
theorem wC_X1_all : Cond.code yX1_all prog_3_method_3_code 1 (Option.some FieldType.int) ∈ lw_gt := in_g (in_t2 (List.mem_of_getElem? (i := 146) rfl)) rfl
theorem wM_X6_107 : Cond.methodLink RX6 107 yX2_madeOf ∈ lw_gt := in_g (in_t2 (List.mem_of_getElem? (i := 147) rfl)) rfl
theorem wI_X2_madeOf : Cond.instanceMethod yX2_madeOf ∈ lw_gt := in_g (in_t2 (List.mem_of_getElem? (i := 148) rfl)) rfl
theorem wS_X2_madeOf : Cond.selects RX2 yX2_madeOf yX2_madeOf ∈ lw_gt := in_g (in_t2 (List.mem_of_getElem? (i := 149) rfl)) rfl
theorem wC_X2_madeOf : Cond.code yX2_madeOf prog_4_method_4_code 2 (Option.some FieldType.int) ∈ lw_gt := in_g (in_t2 (List.mem_of_getElem? (i := 150) rfl)) rfl
theorem wO_X2_58 : Cond.methodLinkNest RX2 58 yX6_at "CopierJobs" ∈ lw_nt := in_n (in_t2 (List.mem_of_getElem? (i := 151) rfl)) rfl
theorem wM_X6_110 : Cond.methodLink RX6 110 yX2_placeOf ∈ lw_gt := in_g (in_t2 (List.mem_of_getElem? (i := 152) rfl)) rfl
theorem wI_X2_placeOf : Cond.instanceMethod yX2_placeOf ∈ lw_gt := in_g (in_t2 (List.mem_of_getElem? (i := 153) rfl)) rfl
theorem wS_X2_placeOf : Cond.selects RX2 yX2_placeOf yX2_placeOf ∈ lw_gt := in_g (in_t2 (List.mem_of_getElem? (i := 154) rfl)) rfl
theorem wC_X2_placeOf : Cond.code yX2_placeOf prog_4_method_7_code 3 (Option.some FieldType.int) ∈ lw_gt := in_g (in_t2 (List.mem_of_getElem? (i := 155) rfl)) rfl
theorem wM_X6_113 : Cond.methodLink RX6 113 yX2_endOf ∈ lw_gt := in_g (in_t2 (List.mem_of_getElem? (i := 156) rfl)) rfl
theorem wI_X2_endOf : Cond.instanceMethod yX2_endOf ∈ lw_gt := in_g (in_t2 (List.mem_of_getElem? (i := 157) rfl)) rfl
theorem wS_X2_endOf : Cond.selects RX2 yX2_endOf yX2_endOf ∈ lw_gt := in_g (in_t2 (List.mem_of_getElem? (i := 158) rfl)) rfl
theorem wC_X2_endOf : Cond.code yX2_endOf prog_4_method_5_code 2 (Option.some FieldType.int) ∈ lw_gt := in_g (in_t2 (List.mem_of_getElem? (i := 159) rfl)) rfl
theorem wM_X6_116 : Cond.methodLink RX6 116 yX6_endsIn ∈ lw_gt := in_g (in_t2 (List.mem_of_getElem? (i := 160) rfl)) rfl
theorem wI_X6_endsIn : Cond.instanceMethod yX6_endsIn ∈ lw_gt := in_g (in_t2 (List.mem_of_getElem? (i := 162) rfl)) rfl
theorem wC_X6_endsIn : Cond.code yX6_endsIn prog_1_method_29_code 3 (Option.some FieldType.int) ∈ lw_gt := in_g (in_t2 (List.mem_of_getElem? (i := 163) rfl)) rfl
theorem wM_X6_279 : Cond.methodLink RX6 279 yX2_copyFrom ∈ lw_gt := in_g (in_t2 (List.mem_of_getElem? (i := 164) rfl)) rfl
theorem wI_X2_copyFrom : Cond.instanceMethod yX2_copyFrom ∈ lw_gt := in_g (in_t2 (List.mem_of_getElem? (i := 165) rfl)) rfl
theorem wS_X2_copyFrom : Cond.selects RX2 yX2_copyFrom yX2_copyFrom ∈ lw_gt := in_g (in_t2 (List.mem_of_getElem? (i := 166) rfl)) rfl
theorem wC_X2_copyFrom : Cond.code yX2_copyFrom prog_4_method_3_code 2 (Option.none : Option FieldType) ∈ lw_gt := in_g (in_t2 (List.mem_of_getElem? (i := 167) rfl)) rfl
theorem wM_X6_205 : Cond.methodLink RX6 205 yX2_whyStands ∈ lw_gt := in_g (in_t2 (List.mem_of_getElem? (i := 168) rfl)) rfl
theorem wI_X2_whyStands : Cond.instanceMethod yX2_whyStands ∈ lw_gt := in_g (in_t2 (List.mem_of_getElem? (i := 169) rfl)) rfl
theorem wS_X2_whyStands : Cond.selects RX2 yX2_whyStands yX2_whyStands ∈ lw_gt := in_g (in_t2 (List.mem_of_getElem? (i := 170) rfl)) rfl
theorem wC_X2_whyStands : Cond.code yX2_whyStands prog_4_method_10_code 5 (Option.some FieldType.int) ∈ lw_gt := in_g (in_t2 (List.mem_of_getElem? (i := 171) rfl)) rfl
theorem wM_X2_70 : Cond.methodLink RX2 70 yX2_firstJob ∈ lw_gt := in_g (in_t2 (List.mem_of_getElem? (i := 172) rfl)) rfl
theorem wI_X2_firstJob : Cond.instanceMethod yX2_firstJob ∈ lw_gt := in_g (in_t2 (List.mem_of_getElem? (i := 173) rfl)) rfl
theorem wS_X2_firstJob : Cond.selects RX2 yX2_firstJob yX2_firstJob ∈ lw_gt := in_g (in_t2 (List.mem_of_getElem? (i := 174) rfl)) rfl
theorem wC_X2_firstJob : Cond.code yX2_firstJob prog_4_method_6_code 1 (Option.some FieldType.int) ∈ lw_gt := in_g (in_t2 (List.mem_of_getElem? (i := 175) rfl)) rfl
theorem wM_X2_74 : Cond.methodLink RX2 74 yX3_jobAt ∈ lw_gt := in_g (in_t2 (List.mem_of_getElem? (i := 176) rfl)) rfl
theorem wM_X2_78 : Cond.methodLink RX2 78 yX2_madeOf ∈ lw_gt := in_g (in_t2 (List.mem_of_getElem? (i := 177) rfl)) rfl
theorem wM_X2_86 : Cond.methodLink RX2 86 yX1_sidesOf ∈ lw_gt := in_g (in_t2 (List.mem_of_getElem? (i := 178) rfl)) rfl
theorem wI_X1_sidesOf : Cond.instanceMethod yX1_sidesOf ∈ lw_gt := in_g (in_t2 (List.mem_of_getElem? (i := 179) rfl)) rfl
theorem wS_X1_sidesOf : Cond.selects RX1 yX1_sidesOf yX1_sidesOf ∈ lw_gt := in_g (in_t2 (List.mem_of_getElem? (i := 180) rfl)) rfl
theorem wC_X1_sidesOf : Cond.code yX1_sidesOf prog_3_method_10_code 2 (Option.some FieldType.int) ∈ lw_gt := in_g (in_t2 (List.mem_of_getElem? (i := 181) rfl)) rfl
theorem wM_X1_46 : Cond.methodLink RX1 46 yX1_backOf ∈ lw_gt := in_g (in_t2 (List.mem_of_getElem? (i := 182) rfl)) rfl
theorem wI_X1_backOf : Cond.instanceMethod yX1_backOf ∈ lw_gt := in_g (in_t2 (List.mem_of_getElem? (i := 183) rfl)) rfl
theorem wS_X1_backOf : Cond.selects RX1 yX1_backOf yX1_backOf ∈ lw_gt := in_g (in_t2 (List.mem_of_getElem? (i := 184) rfl)) rfl
theorem wC_X1_backOf : Cond.code yX1_backOf prog_3_method_9_code 3 (Option.some FieldType.int) ∈ lw_gt := in_g (in_t2 (List.mem_of_getElem? (i := 185) rfl)) rfl
theorem wM_X1_42 : Cond.methodLink RX1 42 yX1_leafOf ∈ lw_gt := in_g (in_t2 (List.mem_of_getElem? (i := 186) rfl)) rfl
theorem wI_X1_leafOf : Cond.instanceMethod yX1_leafOf ∈ lw_gt := in_g (in_t2 (List.mem_of_getElem? (i := 187) rfl)) rfl
theorem wS_X1_leafOf : Cond.selects RX1 yX1_leafOf yX1_leafOf ∈ lw_gt := in_g (in_t2 (List.mem_of_getElem? (i := 188) rfl)) rfl
theorem wC_X1_leafOf : Cond.code yX1_leafOf prog_3_method_7_code 2 (Option.some FieldType.int) ∈ lw_gt := in_g (in_t2 (List.mem_of_getElem? (i := 189) rfl)) rfl
theorem wM_X2_89 : Cond.methodLink RX2 89 yX3_binOf ∈ lw_gt := in_g (in_t2 (List.mem_of_getElem? (i := 190) rfl)) rfl
theorem wI_X3_binOf : Cond.instanceMethod yX3_binOf ∈ lw_gt := in_g (in_t2 (List.mem_of_getElem? (i := 191) rfl)) rfl
theorem wS_X3_binOf : Cond.selects RX3 yX3_binOf yX3_binOf ∈ lw_gt := in_g (in_t2 (List.mem_of_getElem? (i := 192) rfl)) rfl
theorem wC_X3_binOf : Cond.code yX3_binOf prog_5_method_5_code 4 (Option.some FieldType.int) ∈ lw_gt := in_g (in_t2 (List.mem_of_getElem? (i := 193) rfl)) rfl
theorem wM_X3_60 : Cond.methodLink RX3 60 yX1_copyOf ∈ lw_gt := in_g (in_t2 (List.mem_of_getElem? (i := 194) rfl)) rfl
theorem wI_X1_copyOf : Cond.instanceMethod yX1_copyOf ∈ lw_gt := in_g (in_t2 (List.mem_of_getElem? (i := 195) rfl)) rfl
theorem wS_X1_copyOf : Cond.selects RX1 yX1_copyOf yX1_copyOf ∈ lw_gt := in_g (in_t2 (List.mem_of_getElem? (i := 196) rfl)) rfl
theorem wC_X1_copyOf : Cond.code yX1_copyOf prog_3_method_6_code 2 (Option.some FieldType.int) ∈ lw_gt := in_g (in_t2 (List.mem_of_getElem? (i := 197) rfl)) rfl
theorem wM_X3_64 : Cond.methodLink RX3 64 yX1_leafOf ∈ lw_gt := in_g (in_t2 (List.mem_of_getElem? (i := 198) rfl)) rfl
theorem wM_X6_170 : Cond.methodLink RX6 170 yX2_passTick ∈ lw_gt := in_g (in_t2 (List.mem_of_getElem? (i := 199) rfl)) rfl
theorem wI_X2_passTick : Cond.instanceMethod yX2_passTick ∈ lw_gt := in_g (in_t2 (List.mem_of_getElem? (i := 200) rfl)) rfl
theorem wS_X2_passTick : Cond.selects RX2 yX2_passTick yX2_passTick ∈ lw_gt := in_g (in_t2 (List.mem_of_getElem? (i := 201) rfl)) rfl
theorem wC_X2_passTick : Cond.code yX2_passTick prog_4_method_11_code 4 (Option.some FieldType.boolean) ∈ lw_gt := in_g (in_t2 (List.mem_of_getElem? (i := 202) rfl)) rfl
theorem wM_X2_93 : Cond.methodLink RX2 93 yX2_whyStands ∈ lw_gt := in_g (in_t2 (List.mem_of_getElem? (i := 203) rfl)) rfl
theorem wM_X2_97 : Cond.methodLink RX2 97 yX2_bringSheet ∈ lw_gt := in_g (in_t2 (List.mem_of_getElem? (i := 204) rfl)) rfl
theorem wI_X2_bringSheet : Cond.instanceMethod yX2_bringSheet ∈ lw_gt := in_g (in_t2 (List.mem_of_getElem? (i := 206) rfl)) rfl
theorem wC_X2_bringSheet : Cond.code yX2_bringSheet prog_4_method_12_code 6 (Option.none : Option FieldType) ∈ lw_gt := in_g (in_t2 (List.mem_of_getElem? (i := 207) rfl)) rfl
theorem wO_X2_66 : Cond.methodLinkNest RX2 66 yX6_put "CopierJobs" ∈ lw_nt := in_n (in_t2 (List.mem_of_getElem? (i := 208) rfl)) rfl
theorem wM_X2_101 : Cond.methodLink RX2 101 yX1_all ∈ lw_gt := in_g (in_t2 (List.mem_of_getElem? (i := 209) rfl)) rfl
theorem wM_X2_104 : Cond.methodLink RX2 104 yX2_leaveQueue ∈ lw_gt := in_g (in_t2 (List.mem_of_getElem? (i := 210) rfl)) rfl
theorem wI_X2_leaveQueue : Cond.instanceMethod yX2_leaveQueue ∈ lw_gt := in_g (in_t2 (List.mem_of_getElem? (i := 211) rfl)) rfl
theorem wS_X2_leaveQueue : Cond.selects RX2 yX2_leaveQueue yX2_leaveQueue ∈ lw_gt := in_g (in_t2 (List.mem_of_getElem? (i := 212) rfl)) rfl
theorem wC_X2_leaveQueue : Cond.code yX2_leaveQueue prog_4_method_9_code 4 (Option.none : Option FieldType) ∈ lw_gt := in_g (in_t2 (List.mem_of_getElem? (i := 213) rfl)) rfl
theorem wM_X2_62 : Cond.methodLink RX2 62 yX2_placeOf ∈ lw_gt := in_g (in_t2 (List.mem_of_getElem? (i := 214) rfl)) rfl
theorem wM_X6_119 : Cond.methodLink RX6 119 yX2_leftOf ∈ lw_gt := in_g (in_t2 (List.mem_of_getElem? (i := 215) rfl)) rfl
theorem wI_X2_leftOf : Cond.instanceMethod yX2_leftOf ∈ lw_gt := in_g (in_t2 (List.mem_of_getElem? (i := 216) rfl)) rfl
theorem wS_X2_leftOf : Cond.selects RX2 yX2_leftOf yX2_leftOf ∈ lw_gt := in_g (in_t2 (List.mem_of_getElem? (i := 217) rfl)) rfl
theorem wC_X2_leftOf : Cond.code yX2_leftOf prog_4_method_13_code 6 (Option.some FieldType.int) ∈ lw_gt := in_g (in_t2 (List.mem_of_getElem? (i := 218) rfl)) rfl
theorem wM_L_32 : Cond.methodLink RL 32 yX6_sheet ∈ lw_gt := in_g (in_t2 (List.mem_of_getElem? (i := 219) rfl)) rfl
theorem wI_X6_sheet : Cond.instanceMethod yX6_sheet ∈ lw_gt := in_g (in_t2 (List.mem_of_getElem? (i := 220) rfl)) rfl
theorem wS_X6_sheet : Cond.selects RX6 yX6_sheet yX6_sheet ∈ lw_gt := in_g (in_t2 (List.mem_of_getElem? (i := 221) rfl)) rfl
theorem wC_X6_sheet : Cond.code yX6_sheet prog_1_method_6_code 5 (Option.some FieldType.int) ∈ lw_gt := in_g (in_t2 (List.mem_of_getElem? (i := 222) rfl)) rfl
theorem wM_X6_123 : Cond.methodLink RX6 123 yX1_hasSheet ∈ lw_gt := in_g (in_t2 (List.mem_of_getElem? (i := 223) rfl)) rfl
theorem wI_X1_hasSheet : Cond.instanceMethod yX1_hasSheet ∈ lw_gt := in_g (in_t2 (List.mem_of_getElem? (i := 224) rfl)) rfl
theorem wS_X1_hasSheet : Cond.selects RX1 yX1_hasSheet yX1_hasSheet ∈ lw_gt := in_g (in_t2 (List.mem_of_getElem? (i := 225) rfl)) rfl
theorem wC_X1_hasSheet : Cond.code yX1_hasSheet prog_3_method_4_code 2 (Option.some FieldType.boolean) ∈ lw_gt := in_g (in_t2 (List.mem_of_getElem? (i := 226) rfl)) rfl
theorem wM_X1_38 : Cond.methodLink RX1 38 yX1_all ∈ lw_gt := in_g (in_t2 (List.mem_of_getElem? (i := 227) rfl)) rfl
theorem wM_X6_127 : Cond.methodLink RX6 127 yX1_copyOf ∈ lw_gt := in_g (in_t2 (List.mem_of_getElem? (i := 228) rfl)) rfl
theorem wM_X6_130 : Cond.methodLink RX6 130 yX1_frontOf ∈ lw_gt := in_g (in_t2 (List.mem_of_getElem? (i := 229) rfl)) rfl
theorem wI_X1_frontOf : Cond.instanceMethod yX1_frontOf ∈ lw_gt := in_g (in_t2 (List.mem_of_getElem? (i := 230) rfl)) rfl
theorem wS_X1_frontOf : Cond.selects RX1 yX1_frontOf yX1_frontOf ∈ lw_gt := in_g (in_t2 (List.mem_of_getElem? (i := 231) rfl)) rfl
theorem wC_X1_frontOf : Cond.code yX1_frontOf prog_3_method_8_code 2 (Option.some FieldType.int) ∈ lw_gt := in_g (in_t2 (List.mem_of_getElem? (i := 232) rfl)) rfl
theorem wM_X6_133 : Cond.methodLink RX6 133 yX1_backOf ∈ lw_gt := in_g (in_t2 (List.mem_of_getElem? (i := 233) rfl)) rfl
theorem wM_X6_136 : Cond.methodLink RX6 136 yX3_binOf ∈ lw_gt := in_g (in_t2 (List.mem_of_getElem? (i := 234) rfl)) rfl
theorem wM_L_37 : Cond.methodLink RL 37 yX6_where ∈ lw_gt := in_g (in_t2 (List.mem_of_getElem? (i := 235) rfl)) rfl
theorem wI_X6_where : Cond.instanceMethod yX6_where ∈ lw_gt := in_g (in_t2 (List.mem_of_getElem? (i := 236) rfl)) rfl
theorem wS_X6_where : Cond.selects RX6 yX6_where yX6_where ∈ lw_gt := in_g (in_t2 (List.mem_of_getElem? (i := 237) rfl)) rfl
theorem wC_X6_where : Cond.code yX6_where prog_1_method_7_code 5 (Option.some FieldType.int) ∈ lw_gt := in_g (in_t2 (List.mem_of_getElem? (i := 238) rfl)) rfl
theorem wM_X6_140 : Cond.methodLink RX6 140 yX1_hasPage ∈ lw_gt := in_g (in_t2 (List.mem_of_getElem? (i := 239) rfl)) rfl
theorem wI_X1_hasPage : Cond.instanceMethod yX1_hasPage ∈ lw_gt := in_g (in_t3 (List.mem_of_getElem? (i := 0) rfl)) rfl
theorem wS_X1_hasPage : Cond.selects RX1 yX1_hasPage yX1_hasPage ∈ lw_gt := in_g (in_t3 (List.mem_of_getElem? (i := 1) rfl)) rfl
theorem wC_X1_hasPage : Cond.code yX1_hasPage prog_3_method_5_code 2 (Option.some FieldType.boolean) ∈ lw_gt := in_g (in_t3 (List.mem_of_getElem? (i := 2) rfl)) rfl
theorem wM_X6_143 : Cond.methodLink RX6 143 yX1_sheetWith ∈ lw_gt := in_g (in_t3 (List.mem_of_getElem? (i := 3) rfl)) rfl
theorem wI_X1_sheetWith : Cond.instanceMethod yX1_sheetWith ∈ lw_gt := in_g (in_t3 (List.mem_of_getElem? (i := 4) rfl)) rfl
theorem wS_X1_sheetWith : Cond.selects RX1 yX1_sheetWith yX1_sheetWith ∈ lw_gt := in_g (in_t3 (List.mem_of_getElem? (i := 5) rfl)) rfl
theorem wC_X1_sheetWith : Cond.code yX1_sheetWith prog_3_method_11_code 4 (Option.some FieldType.int) ∈ lw_gt := in_g (in_t3 (List.mem_of_getElem? (i := 6) rfl)) rfl
theorem wM_L_41 : Cond.methodLink RL 41 yX6_tray ∈ lw_gt := in_g (in_t3 (List.mem_of_getElem? (i := 7) rfl)) rfl
theorem wI_X6_tray : Cond.instanceMethod yX6_tray ∈ lw_gt := in_g (in_t3 (List.mem_of_getElem? (i := 8) rfl)) rfl
theorem wS_X6_tray : Cond.selects RX6 yX6_tray yX6_tray ∈ lw_gt := in_g (in_t3 (List.mem_of_getElem? (i := 9) rfl)) rfl
theorem wC_X6_tray : Cond.code yX6_tray prog_1_method_8_code 3 (Option.some FieldType.int) ∈ lw_gt := in_g (in_t3 (List.mem_of_getElem? (i := 10) rfl)) rfl
theorem wM_X6_151 : Cond.methodLink RX6 151 yX6_at ∈ lw_gt := in_g (in_t3 (List.mem_of_getElem? (i := 11) rfl)) rfl
theorem wM_X6_155 : Cond.methodLink RX6 155 yX2_trayWants ∈ lw_gt := in_g (in_t3 (List.mem_of_getElem? (i := 12) rfl)) rfl
theorem wI_X2_trayWants : Cond.instanceMethod yX2_trayWants ∈ lw_gt := in_g (in_t3 (List.mem_of_getElem? (i := 13) rfl)) rfl
theorem wS_X2_trayWants : Cond.selects RX2 yX2_trayWants yX2_trayWants ∈ lw_gt := in_g (in_t3 (List.mem_of_getElem? (i := 14) rfl)) rfl
theorem wC_X2_trayWants : Cond.code yX2_trayWants prog_4_method_15_code 7 (Option.some FieldType.int) ∈ lw_gt := in_g (in_t3 (List.mem_of_getElem? (i := 15) rfl)) rfl
theorem wM_X2_108 : Cond.methodLink RX2 108 yJ9_max_7cf53 ∈ lw_gt := in_g (in_t3 (List.mem_of_getElem? (i := 16) rfl)) rfl
theorem wT_J9_max_7cf53 : Cond.static yJ9_max_7cf53 ∈ lw_gt := in_g (in_t3 (List.mem_of_getElem? (i := 17) rfl)) rfl
theorem wC_J9_max_7cf53 : Cond.code yJ9_max_7cf53 prog_11_method_65_code 2 (Option.some FieldType.int) ∈ lw_gt := in_g (in_t3 (List.mem_of_getElem? (i := 18) rfl)) rfl
theorem wM_L_45 : Cond.methodLink RL 45 yX6_bin ∈ lw_gt := in_g (in_t3 (List.mem_of_getElem? (i := 19) rfl)) rfl
theorem wI_X6_bin : Cond.instanceMethod yX6_bin ∈ lw_gt := in_g (in_t3 (List.mem_of_getElem? (i := 20) rfl)) rfl
theorem wS_X6_bin : Cond.selects RX6 yX6_bin yX6_bin ∈ lw_gt := in_g (in_t3 (List.mem_of_getElem? (i := 21) rfl)) rfl
theorem wC_X6_bin : Cond.code yX6_bin prog_1_method_9_code 2 (Option.some FieldType.int) ∈ lw_gt := in_g (in_t3 (List.mem_of_getElem? (i := 22) rfl)) rfl
theorem wM_X6_158 : Cond.methodLink RX6 158 yX3_hasBin ∈ lw_gt := in_g (in_t3 (List.mem_of_getElem? (i := 23) rfl)) rfl
theorem wI_X3_hasBin : Cond.instanceMethod yX3_hasBin ∈ lw_gt := in_g (in_t3 (List.mem_of_getElem? (i := 24) rfl)) rfl
theorem wS_X3_hasBin : Cond.selects RX3 yX3_hasBin yX3_hasBin ∈ lw_gt := in_g (in_t3 (List.mem_of_getElem? (i := 25) rfl)) rfl
theorem wC_X3_hasBin : Cond.code yX3_hasBin prog_5_method_4_code 2 (Option.some FieldType.boolean) ∈ lw_gt := in_g (in_t3 (List.mem_of_getElem? (i := 26) rfl)) rfl
theorem wM_L_49 : Cond.methodLink RL 49 yX6_ticks ∈ lw_gt := in_g (in_t3 (List.mem_of_getElem? (i := 27) rfl)) rfl
theorem wI_X6_ticks : Cond.instanceMethod yX6_ticks ∈ lw_gt := in_g (in_t3 (List.mem_of_getElem? (i := 28) rfl)) rfl
theorem wS_X6_ticks : Cond.selects RX6 yX6_ticks yX6_ticks ∈ lw_gt := in_g (in_t3 (List.mem_of_getElem? (i := 29) rfl)) rfl
theorem wC_X6_ticks : Cond.code yX6_ticks prog_1_method_10_code 4 (Option.some FieldType.int) ∈ lw_gt := in_g (in_t3 (List.mem_of_getElem? (i := 30) rfl)) rfl
theorem wM_X6_167 : Cond.methodLink RX6 167 yX0_remember ∈ lw_gt := in_g (in_t3 (List.mem_of_getElem? (i := 31) rfl)) rfl
theorem wI_X0_remember : Cond.instanceMethod yX0_remember ∈ lw_gt := in_g (in_t3 (List.mem_of_getElem? (i := 32) rfl)) rfl
theorem wS_X0_remember : Cond.selects RX0 yX0_remember yX0_remember ∈ lw_gt := in_g (in_t3 (List.mem_of_getElem? (i := 33) rfl)) rfl
theorem wC_X0_remember : Cond.code yX0_remember prog_2_method_4_code 2 (Option.none : Option FieldType) ∈ lw_gt := in_g (in_t3 (List.mem_of_getElem? (i := 34) rfl)) rfl
theorem wM_X0_33 : Cond.methodLink RX0 33 yJ9_floorMod_7cf53 ∈ lw_gt := in_g (in_t3 (List.mem_of_getElem? (i := 35) rfl)) rfl
theorem wT_J9_floorMod_7cf53 : Cond.static yJ9_floorMod_7cf53 ∈ lw_gt := in_g (in_t3 (List.mem_of_getElem? (i := 36) rfl)) rfl
theorem wC_J9_floorMod_7cf53 : Cond.code yJ9_floorMod_7cf53 prog_11_method_50_code 3 (Option.some FieldType.int) ∈ lw_gt := in_g (in_t3 (List.mem_of_getElem? (i := 37) rfl)) rfl
theorem wM_X0_39 : Cond.methodLink RX0 39 yX0_knownAt ∈ lw_gt := in_g (in_t3 (List.mem_of_getElem? (i := 38) rfl)) rfl
theorem wI_X0_knownAt : Cond.instanceMethod yX0_knownAt ∈ lw_gt := in_g (in_t3 (List.mem_of_getElem? (i := 40) rfl)) rfl
theorem wC_X0_knownAt : Cond.code yX0_knownAt prog_2_method_3_code 3 (Option.some (FieldType.object "CopierJobs$Now")) ∈ lw_gt := in_g (in_t3 (List.mem_of_getElem? (i := 41) rfl)) rfl
theorem wM_X0_43 : Cond.methodLink RX0 43 yX2_copyFrom ∈ lw_gt := in_g (in_t3 (List.mem_of_getElem? (i := 42) rfl)) rfl
theorem wM_L_53 : Cond.methodLink RL 53 yX6_ahead ∈ lw_gt := in_g (in_t3 (List.mem_of_getElem? (i := 43) rfl)) rfl
theorem wI_X6_ahead : Cond.instanceMethod yX6_ahead ∈ lw_gt := in_g (in_t3 (List.mem_of_getElem? (i := 44) rfl)) rfl
theorem wS_X6_ahead : Cond.selects RX6 yX6_ahead yX6_ahead ∈ lw_gt := in_g (in_t3 (List.mem_of_getElem? (i := 45) rfl)) rfl
theorem wC_X6_ahead : Cond.code yX6_ahead prog_1_method_11_code 4 (Option.some FieldType.int) ∈ lw_gt := in_g (in_t3 (List.mem_of_getElem? (i := 46) rfl)) rfl
theorem wM_X6_174 : Cond.methodLink RX6 174 yX2_firstJob ∈ lw_gt := in_g (in_t3 (List.mem_of_getElem? (i := 47) rfl)) rfl
theorem wM_X6_177 : Cond.methodLink RX6 177 yX2_comeToHead ∈ lw_gt := in_g (in_t3 (List.mem_of_getElem? (i := 48) rfl)) rfl
theorem wI_X2_comeToHead : Cond.instanceMethod yX2_comeToHead ∈ lw_gt := in_g (in_t3 (List.mem_of_getElem? (i := 49) rfl)) rfl
theorem wS_X2_comeToHead : Cond.selects RX2 yX2_comeToHead yX2_comeToHead ∈ lw_gt := in_g (in_t3 (List.mem_of_getElem? (i := 50) rfl)) rfl
theorem wC_X2_comeToHead : Cond.code yX2_comeToHead prog_4_method_8_code 3 (Option.none : Option FieldType) ∈ lw_gt := in_g (in_t3 (List.mem_of_getElem? (i := 51) rfl)) rfl
theorem wM_L_57 : Cond.methodLink RL 57 yX6_breaks ∈ lw_gt := in_g (in_t3 (List.mem_of_getElem? (i := 52) rfl)) rfl
theorem wI_X6_breaks : Cond.instanceMethod yX6_breaks ∈ lw_gt := in_g (in_t3 (List.mem_of_getElem? (i := 53) rfl)) rfl
theorem wS_X6_breaks : Cond.selects RX6 yX6_breaks yX6_breaks ∈ lw_gt := in_g (in_t3 (List.mem_of_getElem? (i := 54) rfl)) rfl
theorem wC_X6_breaks : Cond.code yX6_breaks prog_1_method_12_code 2 (Option.some FieldType.int) ∈ lw_gt := in_g (in_t3 (List.mem_of_getElem? (i := 55) rfl)) rfl
theorem wM_X6_181 : Cond.methodLink RX6 181 yX2_leaveQueue ∈ lw_gt := in_g (in_t3 (List.mem_of_getElem? (i := 56) rfl)) rfl
theorem wM_L_61 : Cond.methodLink RL 61 yX6_fills ∈ lw_gt := in_g (in_t3 (List.mem_of_getElem? (i := 57) rfl)) rfl
theorem wI_X6_fills : Cond.instanceMethod yX6_fills ∈ lw_gt := in_g (in_t3 (List.mem_of_getElem? (i := 58) rfl)) rfl
theorem wS_X6_fills : Cond.selects RX6 yX6_fills yX6_fills ∈ lw_gt := in_g (in_t3 (List.mem_of_getElem? (i := 59) rfl)) rfl
theorem wC_X6_fills : Cond.code yX6_fills prog_1_method_13_code 4 (Option.some FieldType.int) ∈ lw_gt := in_g (in_t3 (List.mem_of_getElem? (i := 60) rfl)) rfl
theorem wM_X6_187 : Cond.methodLink RX6 187 yJ9_min_7cf53 ∈ lw_gt := in_g (in_t3 (List.mem_of_getElem? (i := 61) rfl)) rfl
theorem wM_X6_192 : Cond.methodLink RX6 192 yX6_put ∈ lw_gt := in_g (in_t3 (List.mem_of_getElem? (i := 62) rfl)) rfl
theorem wM_L_65 : Cond.methodLink RL 65 yX6_toner ∈ lw_gt := in_g (in_t3 (List.mem_of_getElem? (i := 63) rfl)) rfl
theorem wI_X6_toner : Cond.instanceMethod yX6_toner ∈ lw_gt := in_g (in_t3 (List.mem_of_getElem? (i := 64) rfl)) rfl
theorem wS_X6_toner : Cond.selects RX6 yX6_toner yX6_toner ∈ lw_gt := in_g (in_t3 (List.mem_of_getElem? (i := 65) rfl)) rfl
theorem wC_X6_toner : Cond.code yX6_toner prog_1_method_14_code 2 (Option.some FieldType.int) ∈ lw_gt := in_g (in_t3 (List.mem_of_getElem? (i := 66) rfl)) rfl
theorem wM_L_69 : Cond.methodLink RL 69 yX6_empties ∈ lw_gt := in_g (in_t3 (List.mem_of_getElem? (i := 67) rfl)) rfl
theorem wI_X6_empties : Cond.instanceMethod yX6_empties ∈ lw_gt := in_g (in_t3 (List.mem_of_getElem? (i := 68) rfl)) rfl
theorem wS_X6_empties : Cond.selects RX6 yX6_empties yX6_empties ∈ lw_gt := in_g (in_t3 (List.mem_of_getElem? (i := 69) rfl)) rfl
theorem wC_X6_empties : Cond.code yX6_empties prog_1_method_15_code 3 (Option.some FieldType.int) ∈ lw_gt := in_g (in_t3 (List.mem_of_getElem? (i := 70) rfl)) rfl
theorem wM_L_73 : Cond.methodLink RL 73 yX6_undo ∈ lw_gt := in_g (in_t3 (List.mem_of_getElem? (i := 71) rfl)) rfl
theorem wI_X6_undo : Cond.instanceMethod yX6_undo ∈ lw_gt := in_g (in_t3 (List.mem_of_getElem? (i := 72) rfl)) rfl
theorem wS_X6_undo : Cond.selects RX6 yX6_undo yX6_undo ∈ lw_gt := in_g (in_t3 (List.mem_of_getElem? (i := 73) rfl)) rfl
theorem wC_X6_undo : Cond.code yX6_undo prog_1_method_16_code 1 (Option.some FieldType.int) ∈ lw_gt := in_g (in_t3 (List.mem_of_getElem? (i := 74) rfl)) rfl
theorem wM_X6_202 : Cond.methodLink RX6 202 yX0_takeBack ∈ lw_gt := in_g (in_t3 (List.mem_of_getElem? (i := 75) rfl)) rfl
theorem wI_X0_takeBack : Cond.instanceMethod yX0_takeBack ∈ lw_gt := in_g (in_t3 (List.mem_of_getElem? (i := 76) rfl)) rfl
theorem wS_X0_takeBack : Cond.selects RX0 yX0_takeBack yX0_takeBack ∈ lw_gt := in_g (in_t3 (List.mem_of_getElem? (i := 77) rfl)) rfl
theorem wC_X0_takeBack : Cond.code yX0_takeBack prog_2_method_5_code 2 (Option.none : Option FieldType) ∈ lw_gt := in_g (in_t3 (List.mem_of_getElem? (i := 78) rfl)) rfl
theorem wM_L_77 : Cond.methodLink RL 77 yX6_now ∈ lw_gt := in_g (in_t3 (List.mem_of_getElem? (i := 79) rfl)) rfl
theorem wI_X6_now : Cond.instanceMethod yX6_now ∈ lw_gt := in_g (in_t3 (List.mem_of_getElem? (i := 80) rfl)) rfl
theorem wS_X6_now : Cond.selects RX6 yX6_now yX6_now ∈ lw_gt := in_g (in_t3 (List.mem_of_getElem? (i := 81) rfl)) rfl
theorem wC_X6_now : Cond.code yX6_now prog_1_method_17_code 3 (Option.some FieldType.int) ∈ lw_gt := in_g (in_t3 (List.mem_of_getElem? (i := 82) rfl)) rfl
theorem wM_X6_212 : Cond.methodLink RX6 212 yX2_sheetsInBins ∈ lw_gt := in_g (in_t3 (List.mem_of_getElem? (i := 83) rfl)) rfl
theorem wI_X2_sheetsInBins : Cond.instanceMethod yX2_sheetsInBins ∈ lw_gt := in_g (in_t3 (List.mem_of_getElem? (i := 84) rfl)) rfl
theorem wS_X2_sheetsInBins : Cond.selects RX2 yX2_sheetsInBins yX2_sheetsInBins ∈ lw_gt := in_g (in_t3 (List.mem_of_getElem? (i := 85) rfl)) rfl
theorem wC_X2_sheetsInBins : Cond.code yX2_sheetsInBins prog_4_method_14_code 3 (Option.some FieldType.int) ∈ lw_gt := in_g (in_t3 (List.mem_of_getElem? (i := 86) rfl)) rfl
theorem wM_X6_215 : Cond.methodLink RX6 215 yX2_tonerWants ∈ lw_gt := in_g (in_t3 (List.mem_of_getElem? (i := 87) rfl)) rfl
theorem wI_X2_tonerWants : Cond.instanceMethod yX2_tonerWants ∈ lw_gt := in_g (in_t3 (List.mem_of_getElem? (i := 88) rfl)) rfl
theorem wS_X2_tonerWants : Cond.selects RX2 yX2_tonerWants yX2_tonerWants ∈ lw_gt := in_g (in_t3 (List.mem_of_getElem? (i := 89) rfl)) rfl
theorem wC_X2_tonerWants : Cond.code yX2_tonerWants prog_4_method_16_code 4 (Option.some FieldType.int) ∈ lw_gt := in_g (in_t3 (List.mem_of_getElem? (i := 90) rfl)) rfl
theorem wM_X2_114 : Cond.methodLink RX2 114 yX2_leftOf ∈ lw_gt := in_g (in_t3 (List.mem_of_getElem? (i := 91) rfl)) rfl
theorem wM_L_81 : Cond.methodLink RL 81 yX6_soon ∈ lw_gt := in_g (in_t3 (List.mem_of_getElem? (i := 92) rfl)) rfl
theorem wI_X6_soon : Cond.instanceMethod yX6_soon ∈ lw_gt := in_g (in_t3 (List.mem_of_getElem? (i := 93) rfl)) rfl
theorem wS_X6_soon : Cond.selects RX6 yX6_soon yX6_soon ∈ lw_gt := in_g (in_t3 (List.mem_of_getElem? (i := 94) rfl)) rfl
theorem wC_X6_soon : Cond.code yX6_soon prog_1_method_18_code 8 (Option.some FieldType.int) ∈ lw_gt := in_g (in_t3 (List.mem_of_getElem? (i := 95) rfl)) rfl
theorem wM_X6_218 : Cond.methodLink RX6 218 yX6_shortestBut ∈ lw_gt := in_g (in_t3 (List.mem_of_getElem? (i := 96) rfl)) rfl
theorem wI_X6_shortestBut : Cond.instanceMethod yX6_shortestBut ∈ lw_gt := in_g (in_t3 (List.mem_of_getElem? (i := 98) rfl)) rfl
theorem wC_X6_shortestBut : Cond.code yX6_shortestBut prog_1_method_30_code 6 (Option.some FieldType.int) ∈ lw_gt := in_g (in_t3 (List.mem_of_getElem? (i := 99) rfl)) rfl
theorem wM_L_85 : Cond.methodLink RL 85 yX6_odds ∈ lw_gt := in_g (in_t3 (List.mem_of_getElem? (i := 100) rfl)) rfl
theorem wI_X6_odds : Cond.instanceMethod yX6_odds ∈ lw_gt := in_g (in_t3 (List.mem_of_getElem? (i := 101) rfl)) rfl
theorem wS_X6_odds : Cond.selects RX6 yX6_odds yX6_odds ∈ lw_gt := in_g (in_t3 (List.mem_of_getElem? (i := 102) rfl)) rfl
theorem wC_X6_odds : Cond.code yX6_odds prog_1_method_19_code 9 (Option.some FieldType.int) ∈ lw_gt := in_g (in_t3 (List.mem_of_getElem? (i := 103) rfl)) rfl
theorem wM_X6_221 : Cond.methodLink RX6 221 yX6_choose ∈ lw_gt := in_g (in_t3 (List.mem_of_getElem? (i := 104) rfl)) rfl
theorem wT_X6_choose : Cond.static yX6_choose ∈ lw_gt := in_g (in_t3 (List.mem_of_getElem? (i := 105) rfl)) rfl
theorem wC_X6_choose : Cond.code yX6_choose prog_1_method_36_code 5 (Option.some FieldType.int) ∈ lw_gt := in_g (in_t3 (List.mem_of_getElem? (i := 106) rfl)) rfl
theorem wM_X6_224 : Cond.methodLink RX6 224 yX6_commonDivisor ∈ lw_gt := in_g (in_t3 (List.mem_of_getElem? (i := 107) rfl)) rfl
theorem wT_X6_commonDivisor : Cond.static yX6_commonDivisor ∈ lw_gt := in_g (in_t3 (List.mem_of_getElem? (i := 108) rfl)) rfl
theorem wC_X6_commonDivisor : Cond.code yX6_commonDivisor prog_1_method_37_code 6 (Option.some FieldType.int) ∈ lw_gt := in_g (in_t3 (List.mem_of_getElem? (i := 109) rfl)) rfl
theorem wM_X6_285 : Cond.methodLink RX6 285 yJ9_abs_0f7a4 ∈ lw_gt := in_g (in_t3 (List.mem_of_getElem? (i := 110) rfl)) rfl
theorem wT_J9_abs_0f7a4 : Cond.static yJ9_abs_0f7a4 ∈ lw_gt := in_g (in_t3 (List.mem_of_getElem? (i := 111) rfl)) rfl
theorem wC_J9_abs_0f7a4 : Cond.code yJ9_abs_0f7a4 prog_11_method_59_code 1 (Option.some FieldType.int) ∈ lw_gt := in_g (in_t3 (List.mem_of_getElem? (i := 112) rfl)) rfl
theorem wM_L_90 : Cond.methodLink RL 90 yX6_sees ∈ lw_gt := in_g (in_t3 (List.mem_of_getElem? (i := 113) rfl)) rfl
theorem wI_X6_sees : Cond.instanceMethod yX6_sees ∈ lw_gt := in_g (in_t3 (List.mem_of_getElem? (i := 114) rfl)) rfl
theorem wS_X6_sees : Cond.selects RX6 yX6_sees yX6_sees ∈ lw_gt := in_g (in_t3 (List.mem_of_getElem? (i := 115) rfl)) rfl
theorem wC_X6_sees : Cond.code yX6_sees prog_1_method_20_code 4 (Option.some FieldType.int) ∈ lw_gt := in_g (in_t3 (List.mem_of_getElem? (i := 116) rfl)) rfl
theorem wM_X6_230 : Cond.methodLink RX6 230 yX4_add ∈ lw_gt := in_g (in_t3 (List.mem_of_getElem? (i := 117) rfl)) rfl
theorem wI_X4_add : Cond.instanceMethod yX4_add ∈ lw_gt := in_g (in_t3 (List.mem_of_getElem? (i := 118) rfl)) rfl
theorem wS_X4_add : Cond.selects RX4 yX4_add yX4_add ∈ lw_gt := in_g (in_t3 (List.mem_of_getElem? (i := 119) rfl)) rfl
theorem wC_X4_add : Cond.code yX4_add prog_6_method_2_code 4 (Option.some FieldType.int) ∈ lw_gt := in_g (in_t3 (List.mem_of_getElem? (i := 120) rfl)) rfl
theorem wO_X4_28 : Cond.methodLinkNest RX4 28 yX6_put "CopierJobs" ∈ lw_nt := in_n (in_t3 (List.mem_of_getElem? (i := 121) rfl)) rfl
theorem wM_L_94 : Cond.methodLink RL 94 yX6_forget ∈ lw_gt := in_g (in_t3 (List.mem_of_getElem? (i := 122) rfl)) rfl
theorem wI_X6_forget : Cond.instanceMethod yX6_forget ∈ lw_gt := in_g (in_t3 (List.mem_of_getElem? (i := 123) rfl)) rfl
theorem wS_X6_forget : Cond.selects RX6 yX6_forget yX6_forget ∈ lw_gt := in_g (in_t3 (List.mem_of_getElem? (i := 124) rfl)) rfl
theorem wC_X6_forget : Cond.code yX6_forget prog_1_method_21_code 1 (Option.some FieldType.int) ∈ lw_gt := in_g (in_t3 (List.mem_of_getElem? (i := 125) rfl)) rfl
theorem wM_L_98 : Cond.methodLink RL 98 yX6_whose ∈ lw_gt := in_g (in_t3 (List.mem_of_getElem? (i := 126) rfl)) rfl
theorem wI_X6_whose : Cond.instanceMethod yX6_whose ∈ lw_gt := in_g (in_t3 (List.mem_of_getElem? (i := 127) rfl)) rfl
theorem wS_X6_whose : Cond.selects RX6 yX6_whose yX6_whose ∈ lw_gt := in_g (in_t3 (List.mem_of_getElem? (i := 128) rfl)) rfl
theorem wC_X6_whose : Cond.code yX6_whose prog_1_method_22_code 1 (Option.some FieldType.int) ∈ lw_gt := in_g (in_t3 (List.mem_of_getElem? (i := 129) rfl)) rfl
theorem wM_X6_233 : Cond.methodLink RX6 233 yX4_fittingOf ∈ lw_gt := in_g (in_t3 (List.mem_of_getElem? (i := 130) rfl)) rfl
theorem wI_X4_fittingOf : Cond.instanceMethod yX4_fittingOf ∈ lw_gt := in_g (in_t3 (List.mem_of_getElem? (i := 131) rfl)) rfl
theorem wS_X4_fittingOf : Cond.selects RX4 yX4_fittingOf yX4_fittingOf ∈ lw_gt := in_g (in_t3 (List.mem_of_getElem? (i := 132) rfl)) rfl
theorem wC_X4_fittingOf : Cond.code yX4_fittingOf prog_6_method_4_code 5 (Option.some FieldType.int) ∈ lw_gt := in_g (in_t3 (List.mem_of_getElem? (i := 133) rfl)) rfl
theorem wM_X4_37 : Cond.methodLink RX4 37 yX3_jobAt ∈ lw_gt := in_g (in_t3 (List.mem_of_getElem? (i := 134) rfl)) rfl
theorem wM_X4_41 : Cond.methodLink RX4 41 yX4_fits ∈ lw_gt := in_g (in_t3 (List.mem_of_getElem? (i := 135) rfl)) rfl
theorem wI_X4_fits : Cond.instanceMethod yX4_fits ∈ lw_gt := in_g (in_t3 (List.mem_of_getElem? (i := 137) rfl)) rfl
theorem wC_X4_fits : Cond.code yX4_fits prog_6_method_5_code 5 (Option.some FieldType.boolean) ∈ lw_gt := in_g (in_t3 (List.mem_of_getElem? (i := 138) rfl)) rfl
theorem wO_X4_45 : Cond.methodLinkNest RX4 45 yX6_at "CopierJobs" ∈ lw_nt := in_n (in_t3 (List.mem_of_getElem? (i := 139) rfl)) rfl
theorem wM_X4_49 : Cond.methodLink RX4 49 yX1_hasSheet ∈ lw_gt := in_g (in_t3 (List.mem_of_getElem? (i := 140) rfl)) rfl
theorem wM_X4_55 : Cond.methodLink RX4 55 yX1_frontOf ∈ lw_gt := in_g (in_t3 (List.mem_of_getElem? (i := 141) rfl)) rfl
theorem wM_L_102 : Cond.methodLink RL 102 yX6_look ∈ lw_gt := in_g (in_t3 (List.mem_of_getElem? (i := 142) rfl)) rfl
theorem wI_X6_look : Cond.instanceMethod yX6_look ∈ lw_gt := in_g (in_t3 (List.mem_of_getElem? (i := 143) rfl)) rfl
theorem wS_X6_look : Cond.selects RX6 yX6_look yX6_look ∈ lw_gt := in_g (in_t3 (List.mem_of_getElem? (i := 144) rfl)) rfl
theorem wC_X6_look : Cond.code yX6_look prog_1_method_23_code 9 (Option.some FieldType.int) ∈ lw_gt := in_g (in_t3 (List.mem_of_getElem? (i := 145) rfl)) rfl
theorem wM_X6_236 : Cond.methodLink RX6 236 yJ6_bitCount_0f7a4 ∈ lw_gt := in_g (in_t3 (List.mem_of_getElem? (i := 146) rfl)) rfl
theorem wT_J6_bitCount_0f7a4 : Cond.static yJ6_bitCount_0f7a4 ∈ lw_gt := in_g (in_t3 (List.mem_of_getElem? (i := 147) rfl)) rfl
theorem wC_J6_bitCount_0f7a4 : Cond.code yJ6_bitCount_0f7a4 prog_10_method_49_code 1 (Option.some FieldType.int) ∈ lw_gt := in_g (in_t3 (List.mem_of_getElem? (i := 148) rfl)) rfl
theorem wV_J6_265 : Cond.constant RJ6 265 (1431655765 : Int32) ∈ lw_gt := in_g (in_t3 (List.mem_of_getElem? (i := 149) rfl)) rfl
theorem wV_J6_266 : Cond.constant RJ6 266 (858993459 : Int32) ∈ lw_gt := in_g (in_t3 (List.mem_of_getElem? (i := 150) rfl)) rfl
theorem wV_J6_267 : Cond.constant RJ6 267 (252645135 : Int32) ∈ lw_gt := in_g (in_t3 (List.mem_of_getElem? (i := 151) rfl)) rfl
theorem wM_X6_241 : Cond.methodLink RX6 241 yX4_countFronts ∈ lw_gt := in_g (in_t3 (List.mem_of_getElem? (i := 152) rfl)) rfl
theorem wI_X4_countFronts : Cond.instanceMethod yX4_countFronts ∈ lw_gt := in_g (in_t3 (List.mem_of_getElem? (i := 153) rfl)) rfl
theorem wS_X4_countFronts : Cond.selects RX4 yX4_countFronts yX4_countFronts ∈ lw_gt := in_g (in_t3 (List.mem_of_getElem? (i := 154) rfl)) rfl
theorem wC_X4_countFronts : Cond.code yX4_countFronts prog_6_method_6_code 7 (Option.none : Option FieldType) ∈ lw_gt := in_g (in_t3 (List.mem_of_getElem? (i := 155) rfl)) rfl
theorem wM_X4_59 : Cond.methodLink RX4 59 yJ7_fill_53178 ∈ lw_gt := in_g (in_t3 (List.mem_of_getElem? (i := 156) rfl)) rfl
theorem wM_X6_248 : Cond.methodLink RX6 248 yJ9_max_7cf53 ∈ lw_gt := in_g (in_t3 (List.mem_of_getElem? (i := 157) rfl)) rfl
theorem wM_L_106 : Cond.methodLink RL 106 yX6_mark ∈ lw_gt := in_g (in_t3 (List.mem_of_getElem? (i := 158) rfl)) rfl
theorem wI_X6_mark : Cond.instanceMethod yX6_mark ∈ lw_gt := in_g (in_t3 (List.mem_of_getElem? (i := 159) rfl)) rfl
theorem wS_X6_mark : Cond.selects RX6 yX6_mark yX6_mark ∈ lw_gt := in_g (in_t3 (List.mem_of_getElem? (i := 160) rfl)) rfl
theorem wC_X6_mark : Cond.code yX6_mark prog_1_method_24_code 4 (Option.some FieldType.int) ∈ lw_gt := in_g (in_t3 (List.mem_of_getElem? (i := 161) rfl)) rfl
theorem wF_X6_251 : Cond.fieldLink RX6 251 "CopierJobs" "KIND_ABOVE" "[I" ∈ lw_gt := in_g (in_t3 (List.mem_of_getElem? (i := 162) rfl)) rfl
theorem wV_X6_254 : Cond.constant RX6 254 (-1000000 : Int32) ∈ lw_gt := in_g (in_t3 (List.mem_of_getElem? (i := 164) rfl)) rfl
theorem wM_X6_255 : Cond.methodLink RX6 255 yX6_worthAs ∈ lw_gt := in_g (in_t3 (List.mem_of_getElem? (i := 165) rfl)) rfl
theorem wI_X6_worthAs : Cond.instanceMethod yX6_worthAs ∈ lw_gt := in_g (in_t3 (List.mem_of_getElem? (i := 167) rfl)) rfl
theorem wC_X6_worthAs : Cond.code yX6_worthAs prog_1_method_31_code 6 (Option.some FieldType.int) ∈ lw_gt := in_g (in_t3 (List.mem_of_getElem? (i := 168) rfl)) rfl
theorem wF_X6_282 : Cond.fieldLink RX6 282 "CopierJobs" "KIND_TRACE" "[I" ∈ lw_gt := in_g (in_t3 (List.mem_of_getElem? (i := 169) rfl)) rfl
theorem wM_L_110 : Cond.methodLink RL 110 yX6_keep ∈ lw_gt := in_g (in_t3 (List.mem_of_getElem? (i := 171) rfl)) rfl
theorem wI_X6_keep : Cond.instanceMethod yX6_keep ∈ lw_gt := in_g (in_t3 (List.mem_of_getElem? (i := 172) rfl)) rfl
theorem wS_X6_keep : Cond.selects RX6 yX6_keep yX6_keep ∈ lw_gt := in_g (in_t3 (List.mem_of_getElem? (i := 173) rfl)) rfl
theorem wC_X6_keep : Cond.code yX6_keep prog_1_method_25_code 3 (Option.some FieldType.int) ∈ lw_gt := in_g (in_t3 (List.mem_of_getElem? (i := 174) rfl)) rfl
theorem wM_X6_259 : Cond.methodLink RX6 259 yX6_imageAt ∈ lw_gt := in_g (in_t3 (List.mem_of_getElem? (i := 175) rfl)) rfl
theorem wI_X6_imageAt : Cond.instanceMethod yX6_imageAt ∈ lw_gt := in_g (in_t3 (List.mem_of_getElem? (i := 177) rfl)) rfl
theorem wC_X6_imageAt : Cond.code yX6_imageAt prog_1_method_32_code 2 (Option.some (FieldType.object "CopierJobs$Course")) ∈ lw_gt := in_g (in_t3 (List.mem_of_getElem? (i := 178) rfl)) rfl
theorem wM_X6_263 : Cond.methodLink RX6 263 yX0_copyFrom ∈ lw_gt := in_g (in_t3 (List.mem_of_getElem? (i := 179) rfl)) rfl
theorem wI_X0_copyFrom : Cond.instanceMethod yX0_copyFrom ∈ lw_gt := in_g (in_t3 (List.mem_of_getElem? (i := 180) rfl)) rfl
theorem wS_X0_copyFrom : Cond.selects RX0 yX0_copyFrom yX0_copyFrom ∈ lw_gt := in_g (in_t3 (List.mem_of_getElem? (i := 181) rfl)) rfl
theorem wC_X0_copyFrom : Cond.code yX0_copyFrom prog_2_method_6_code 5 (Option.none : Option FieldType) ∈ lw_gt := in_g (in_t3 (List.mem_of_getElem? (i := 182) rfl)) rfl
theorem wM_L_114 : Cond.methodLink RL 114 yX6_back ∈ lw_gt := in_g (in_t3 (List.mem_of_getElem? (i := 183) rfl)) rfl
theorem wI_X6_back : Cond.instanceMethod yX6_back ∈ lw_gt := in_g (in_t3 (List.mem_of_getElem? (i := 184) rfl)) rfl
theorem wS_X6_back : Cond.selects RX6 yX6_back yX6_back ∈ lw_gt := in_g (in_t3 (List.mem_of_getElem? (i := 185) rfl)) rfl
theorem wC_X6_back : Cond.code yX6_back prog_1_method_26_code 3 (Option.some FieldType.int) ∈ lw_gt := in_g (in_t3 (List.mem_of_getElem? (i := 186) rfl)) rfl
theorem wM_L_118 : Cond.methodLink RL 118 yX6_count ∈ lw_gt := in_g (in_t3 (List.mem_of_getElem? (i := 187) rfl)) rfl
theorem wI_X6_count : Cond.instanceMethod yX6_count ∈ lw_gt := in_g (in_t3 (List.mem_of_getElem? (i := 188) rfl)) rfl
theorem wS_X6_count : Cond.selects RX6 yX6_count yX6_count ∈ lw_gt := in_g (in_t3 (List.mem_of_getElem? (i := 189) rfl)) rfl
theorem wC_X6_count : Cond.code yX6_count prog_1_method_27_code 2 (Option.some FieldType.int) ∈ lw_gt := in_g (in_t3 (List.mem_of_getElem? (i := 190) rfl)) rfl
theorem wM_L_122 : Cond.methodLink RL 122 yX6_trace ∈ lw_gt := in_g (in_t3 (List.mem_of_getElem? (i := 191) rfl)) rfl
theorem wI_X6_trace : Cond.instanceMethod yX6_trace ∈ lw_gt := in_g (in_t3 (List.mem_of_getElem? (i := 192) rfl)) rfl
theorem wS_X6_trace : Cond.selects RX6 yX6_trace yX6_trace ∈ lw_gt := in_g (in_t3 (List.mem_of_getElem? (i := 193) rfl)) rfl
theorem wC_X6_trace : Cond.code yX6_trace prog_1_method_28_code 1 (Option.some FieldType.long) ∈ lw_gt := in_g (in_t3 (List.mem_of_getElem? (i := 194) rfl)) rfl
theorem wK_L_10 : Cond.classLink RL 10 RX7 ∈ lw_gt := in_g (in_t3 (List.mem_of_getElem? (i := 195) rfl)) rfl
theorem wU_X7 : Cond.instantiable RX7 28 ∈ lw_gt := in_g (in_t3 (List.mem_of_getElem? (i := 196) rfl)) rfl
theorem wM_L_12 : Cond.methodLink RL 12 yX7_init ∈ lw_gt := in_g (in_t3 (List.mem_of_getElem? (i := 197) rfl)) rfl
theorem wI_X7_init : Cond.instanceMethod yX7_init ∈ lw_gt := in_g (in_t3 (List.mem_of_getElem? (i := 198) rfl)) rfl
theorem wC_X7_init : Cond.code yX7_init prog_9_method_1_code 1 (Option.none : Option FieldType) ∈ lw_gt := in_g (in_t3 (List.mem_of_getElem? (i := 199) rfl)) rfl
theorem wM_X7_1 : Cond.methodLink RX7 1 objectInit ∈ lw_gt := in_g (in_t3 (List.mem_of_getElem? (i := 200) rfl)) rfl
theorem wM_X7_59 : Cond.methodLink RX7 59 yX7_begin ∈ lw_gt := in_g (in_t3 (List.mem_of_getElem? (i := 201) rfl)) rfl
theorem wI_X7_begin : Cond.instanceMethod yX7_begin ∈ lw_gt := in_g (in_t3 (List.mem_of_getElem? (i := 203) rfl)) rfl
theorem wC_X7_begin : Cond.code yX7_begin prog_9_method_17_code 2 (Option.none : Option FieldType) ∈ lw_gt := in_g (in_t3 (List.mem_of_getElem? (i := 204) rfl)) rfl
theorem wF_X7_7 : Cond.fieldLink RX7 7 "CopierJobsModel" "pages" "[I" ∈ lw_gt := in_g (in_t3 (List.mem_of_getElem? (i := 205) rfl)) rfl
theorem wF_X7_13 : Cond.fieldLink RX7 13 "CopierJobsModel" "copies" "[I" ∈ lw_gt := in_g (in_t3 (List.mem_of_getElem? (i := 206) rfl)) rfl
theorem wF_X7_16 : Cond.fieldLink RX7 16 "CopierJobsModel" "both" "[I" ∈ lw_gt := in_g (in_t3 (List.mem_of_getElem? (i := 207) rfl)) rfl
theorem wF_X7_19 : Cond.fieldLink RX7 19 "CopierJobsModel" "sorted" "[I" ∈ lw_gt := in_g (in_t3 (List.mem_of_getElem? (i := 208) rfl)) rfl
theorem wF_X7_22 : Cond.fieldLink RX7 22 "CopierJobsModel" "trays" "[I" ∈ lw_gt := in_g (in_t3 (List.mem_of_getElem? (i := 209) rfl)) rfl
theorem wF_X7_66 : Cond.fieldLink RX7 66 "CopierJobsModel" "jobs" "I" ∈ lw_gt := in_g (in_t3 (List.mem_of_getElem? (i := 210) rfl)) rfl
theorem wF_X7_25 : Cond.fieldLink RX7 25 "CopierJobsModel" "bins" "I" ∈ lw_gt := in_g (in_t3 (List.mem_of_getElem? (i := 211) rfl)) rfl
theorem wF_X7_29 : Cond.fieldLink RX7 29 "CopierJobsModel" "st" "[I" ∈ lw_gt := in_g (in_t3 (List.mem_of_getElem? (i := 212) rfl)) rfl
theorem wF_X7_32 : Cond.fieldLink RX7 32 "CopierJobsModel" "past" "[I" ∈ lw_gt := in_g (in_t3 (List.mem_of_getElem? (i := 213) rfl)) rfl
theorem wF_X7_133 : Cond.fieldLink RX7 133 "CopierJobsModel" "undoMany" "I" ∈ lw_gt := in_g (in_t3 (List.mem_of_getElem? (i := 214) rfl)) rfl
theorem wF_X7_35 : Cond.fieldLink RX7 35 "CopierJobsModel" "seen" "[I" ∈ lw_gt := in_g (in_t3 (List.mem_of_getElem? (i := 215) rfl)) rfl
theorem wF_X7_136 : Cond.fieldLink RX7 136 "CopierJobsModel" "seenMany" "I" ∈ lw_gt := in_g (in_t3 (List.mem_of_getElem? (i := 216) rfl)) rfl
theorem wF_X7_234 : Cond.fieldLink RX7 234 "CopierJobsModel" "trace" "J" ∈ lw_gt := in_g (in_t3 (List.mem_of_getElem? (i := 217) rfl)) rfl
theorem wF_X7_38 : Cond.fieldLink RX7 38 "CopierJobsModel" "text" "[I" ∈ lw_gt := in_g (in_t3 (List.mem_of_getElem? (i := 218) rfl)) rfl
theorem wF_X7_71 : Cond.fieldLink RX7 71 "CopierJobsModel" "length" "I" ∈ lw_gt := in_g (in_t3 (List.mem_of_getElem? (i := 219) rfl)) rfl
theorem wF_X7_74 : Cond.fieldLink RX7 74 "CopierJobsModel" "place" "I" ∈ lw_gt := in_g (in_t3 (List.mem_of_getElem? (i := 220) rfl)) rfl
theorem wF_X7_88 : Cond.fieldLink RX7 88 "CopierJobsModel" "from" "I" ∈ lw_gt := in_g (in_t3 (List.mem_of_getElem? (i := 221) rfl)) rfl
theorem wF_X7_91 : Cond.fieldLink RX7 91 "CopierJobsModel" "sort" "I" ∈ lw_gt := in_g (in_t3 (List.mem_of_getElem? (i := 222) rfl)) rfl
theorem wF_X7_77 : Cond.fieldLink RX7 77 "CopierJobsModel" "value" "I" ∈ lw_gt := in_g (in_t3 (List.mem_of_getElem? (i := 223) rfl)) rfl
theorem wF_X7_41 : Cond.fieldLink RX7 41 "CopierJobsModel" "newTrays" "[I" ∈ lw_gt := in_g (in_t3 (List.mem_of_getElem? (i := 224) rfl)) rfl
theorem wF_X7_56 : Cond.fieldLink RX7 56 "CopierJobsModel" "newInk" "I" ∈ lw_gt := in_g (in_t3 (List.mem_of_getElem? (i := 225) rfl)) rfl
theorem wF_X7_121 : Cond.fieldLink RX7 121 "CopierJobsModel" "newBins" "I" ∈ lw_gt := in_g (in_t3 (List.mem_of_getElem? (i := 226) rfl)) rfl
theorem wF_X7_44 : Cond.fieldLink RX7 44 "CopierJobsModel" "newJobs" "[I" ∈ lw_gt := in_g (in_t3 (List.mem_of_getElem? (i := 227) rfl)) rfl
theorem wF_X7_111 : Cond.fieldLink RX7 111 "CopierJobsModel" "newMany" "I" ∈ lw_gt := in_g (in_t3 (List.mem_of_getElem? (i := 228) rfl)) rfl
theorem wF_X7_114 : Cond.fieldLink RX7 114 "CopierJobsModel" "told" "I" ∈ lw_gt := in_g (in_t3 (List.mem_of_getElem? (i := 229) rfl)) rfl
theorem wF_X7_47 : Cond.fieldLink RX7 47 "CopierJobsModel" "aside" "[I" ∈ lw_gt := in_g (in_t3 (List.mem_of_getElem? (i := 230) rfl)) rfl
theorem wF_X7_50 : Cond.fieldLink RX7 50 "CopierJobsModel" "images" "[I" ∈ lw_gt := in_g (in_t3 (List.mem_of_getElem? (i := 231) rfl)) rfl
theorem wF_X7_53 : Cond.fieldLink RX7 53 "CopierJobsModel" "isKept" "[I" ∈ lw_gt := in_g (in_t3 (List.mem_of_getElem? (i := 232) rfl)) rfl
theorem wL_X7_pages : Cond.laysFinal RX7 "CopierJobsModel" "pages" "[I" ∈ lw_gt := in_g (in_t3 (List.mem_of_getElem? (i := 233) rfl)) rfl
theorem wL_X7_copies : Cond.laysFinal RX7 "CopierJobsModel" "copies" "[I" ∈ lw_gt := in_g (in_t3 (List.mem_of_getElem? (i := 235) rfl)) rfl
theorem wL_X7_both : Cond.laysFinal RX7 "CopierJobsModel" "both" "[I" ∈ lw_gt := in_g (in_t3 (List.mem_of_getElem? (i := 237) rfl)) rfl
theorem wL_X7_sorted : Cond.laysFinal RX7 "CopierJobsModel" "sorted" "[I" ∈ lw_gt := in_g (in_t3 (List.mem_of_getElem? (i := 239) rfl)) rfl
theorem wL_X7_trays : Cond.laysFinal RX7 "CopierJobsModel" "trays" "[I" ∈ lw_gt := in_g (in_t4 (List.mem_of_getElem? (i := 1) rfl)) rfl
theorem wL_X7_jobs : Cond.lays RX7 "CopierJobsModel" "jobs" "I" ∈ lw_gt := in_g (in_t4 (List.mem_of_getElem? (i := 3) rfl)) rfl
theorem wL_X7_bins : Cond.lays RX7 "CopierJobsModel" "bins" "I" ∈ lw_gt := in_g (in_t4 (List.mem_of_getElem? (i := 5) rfl)) rfl
theorem wL_X7_st : Cond.laysFinal RX7 "CopierJobsModel" "st" "[I" ∈ lw_gt := in_g (in_t4 (List.mem_of_getElem? (i := 7) rfl)) rfl
theorem wL_X7_past : Cond.laysFinal RX7 "CopierJobsModel" "past" "[I" ∈ lw_gt := in_g (in_t4 (List.mem_of_getElem? (i := 9) rfl)) rfl
theorem wL_X7_undoMany : Cond.lays RX7 "CopierJobsModel" "undoMany" "I" ∈ lw_gt := in_g (in_t4 (List.mem_of_getElem? (i := 11) rfl)) rfl
theorem wL_X7_seen : Cond.laysFinal RX7 "CopierJobsModel" "seen" "[I" ∈ lw_gt := in_g (in_t4 (List.mem_of_getElem? (i := 13) rfl)) rfl
theorem wL_X7_seenMany : Cond.lays RX7 "CopierJobsModel" "seenMany" "I" ∈ lw_gt := in_g (in_t4 (List.mem_of_getElem? (i := 15) rfl)) rfl
theorem wL_X7_trace : Cond.lays RX7 "CopierJobsModel" "trace" "J" ∈ lw_gt := in_g (in_t4 (List.mem_of_getElem? (i := 17) rfl)) rfl
theorem wL_X7_text : Cond.laysFinal RX7 "CopierJobsModel" "text" "[I" ∈ lw_gt := in_g (in_t4 (List.mem_of_getElem? (i := 19) rfl)) rfl
theorem wL_X7_length : Cond.lays RX7 "CopierJobsModel" "length" "I" ∈ lw_gt := in_g (in_t4 (List.mem_of_getElem? (i := 21) rfl)) rfl
theorem wL_X7_place : Cond.lays RX7 "CopierJobsModel" "place" "I" ∈ lw_gt := in_g (in_t4 (List.mem_of_getElem? (i := 23) rfl)) rfl
theorem wL_X7_from : Cond.lays RX7 "CopierJobsModel" "from" "I" ∈ lw_gt := in_g (in_t4 (List.mem_of_getElem? (i := 25) rfl)) rfl
theorem wL_X7_sort : Cond.lays RX7 "CopierJobsModel" "sort" "I" ∈ lw_gt := in_g (in_t4 (List.mem_of_getElem? (i := 27) rfl)) rfl
theorem wL_X7_value : Cond.lays RX7 "CopierJobsModel" "value" "I" ∈ lw_gt := in_g (in_t4 (List.mem_of_getElem? (i := 29) rfl)) rfl
theorem wL_X7_newTrays : Cond.laysFinal RX7 "CopierJobsModel" "newTrays" "[I" ∈ lw_gt := in_g (in_t4 (List.mem_of_getElem? (i := 31) rfl)) rfl
theorem wL_X7_newInk : Cond.lays RX7 "CopierJobsModel" "newInk" "I" ∈ lw_gt := in_g (in_t4 (List.mem_of_getElem? (i := 33) rfl)) rfl
theorem wL_X7_newBins : Cond.lays RX7 "CopierJobsModel" "newBins" "I" ∈ lw_gt := in_g (in_t4 (List.mem_of_getElem? (i := 35) rfl)) rfl
theorem wL_X7_newJobs : Cond.laysFinal RX7 "CopierJobsModel" "newJobs" "[I" ∈ lw_gt := in_g (in_t4 (List.mem_of_getElem? (i := 37) rfl)) rfl
theorem wL_X7_newMany : Cond.lays RX7 "CopierJobsModel" "newMany" "I" ∈ lw_gt := in_g (in_t4 (List.mem_of_getElem? (i := 39) rfl)) rfl
theorem wL_X7_told : Cond.lays RX7 "CopierJobsModel" "told" "I" ∈ lw_gt := in_g (in_t4 (List.mem_of_getElem? (i := 41) rfl)) rfl
theorem wL_X7_aside : Cond.laysFinal RX7 "CopierJobsModel" "aside" "[I" ∈ lw_gt := in_g (in_t4 (List.mem_of_getElem? (i := 43) rfl)) rfl
theorem wL_X7_images : Cond.laysFinal RX7 "CopierJobsModel" "images" "[I" ∈ lw_gt := in_g (in_t4 (List.mem_of_getElem? (i := 45) rfl)) rfl
theorem wL_X7_isKept : Cond.laysFinal RX7 "CopierJobsModel" "isKept" "[I" ∈ lw_gt := in_g (in_t4 (List.mem_of_getElem? (i := 47) rfl)) rfl
theorem wM_L_17 : Cond.methodLink RL 17 yX7_type ∈ lw_gt := in_g (in_t4 (List.mem_of_getElem? (i := 50) rfl)) rfl
theorem wI_X7_type : Cond.instanceMethod yX7_type ∈ lw_gt := in_g (in_t4 (List.mem_of_getElem? (i := 51) rfl)) rfl
theorem wS_X7_type : Cond.selects RX7 yX7_type yX7_type ∈ lw_gt := in_g (in_t4 (List.mem_of_getElem? (i := 52) rfl)) rfl
theorem wC_X7_type : Cond.code yX7_type prog_9_method_5_code 2 (Option.some FieldType.int) ∈ lw_gt := in_g (in_t4 (List.mem_of_getElem? (i := 53) rfl)) rfl
theorem wW_X7_69 : Cond.constantLong RX7 69 (255 : Int64) ∈ lw_gt := in_g (in_t4 (List.mem_of_getElem? (i := 54) rfl)) rfl
theorem wM_X7_62 : Cond.methodLink RX7 62 yX7_in ∈ lw_gt := in_g (in_t4 (List.mem_of_getElem? (i := 55) rfl)) rfl
theorem wT_X7_in : Cond.static yX7_in ∈ lw_gt := in_g (in_t4 (List.mem_of_getElem? (i := 56) rfl)) rfl
theorem wC_X7_in : Cond.code yX7_in prog_9_method_2_code 6 (Option.some FieldType.boolean) ∈ lw_gt := in_g (in_t4 (List.mem_of_getElem? (i := 57) rfl)) rfl
theorem wM_L_22 : Cond.methodLink RL 22 yX7_clear ∈ lw_gt := in_g (in_t4 (List.mem_of_getElem? (i := 58) rfl)) rfl
theorem wI_X7_clear : Cond.instanceMethod yX7_clear ∈ lw_gt := in_g (in_t4 (List.mem_of_getElem? (i := 59) rfl)) rfl
theorem wS_X7_clear : Cond.selects RX7 yX7_clear yX7_clear ∈ lw_gt := in_g (in_t4 (List.mem_of_getElem? (i := 60) rfl)) rfl
theorem wC_X7_clear : Cond.code yX7_clear prog_9_method_6_code 2 (Option.some FieldType.int) ∈ lw_gt := in_g (in_t4 (List.mem_of_getElem? (i := 61) rfl)) rfl
theorem wM_L_26 : Cond.methodLink RL 26 yX7_office ∈ lw_gt := in_g (in_t4 (List.mem_of_getElem? (i := 62) rfl)) rfl
theorem wI_X7_office : Cond.instanceMethod yX7_office ∈ lw_gt := in_g (in_t4 (List.mem_of_getElem? (i := 63) rfl)) rfl
theorem wS_X7_office : Cond.selects RX7 yX7_office yX7_office ∈ lw_gt := in_g (in_t4 (List.mem_of_getElem? (i := 64) rfl)) rfl
theorem wC_X7_office : Cond.code yX7_office prog_9_method_16_code 4 (Option.some FieldType.int) ∈ lw_gt := in_g (in_t4 (List.mem_of_getElem? (i := 65) rfl)) rfl
theorem wM_X7_104 : Cond.methodLink RX7 104 yX7_next ∈ lw_gt := in_g (in_t4 (List.mem_of_getElem? (i := 66) rfl)) rfl
theorem wI_X7_next : Cond.instanceMethod yX7_next ∈ lw_gt := in_g (in_t4 (List.mem_of_getElem? (i := 68) rfl)) rfl
theorem wC_X7_next : Cond.code yX7_next prog_9_method_10_code 2 (Option.none : Option FieldType) ∈ lw_gt := in_g (in_t4 (List.mem_of_getElem? (i := 69) rfl)) rfl
theorem wM_X7_80 : Cond.methodLink RX7 80 yX7_letter ∈ lw_gt := in_g (in_t4 (List.mem_of_getElem? (i := 70) rfl)) rfl
theorem wI_X7_letter : Cond.instanceMethod yX7_letter ∈ lw_gt := in_g (in_t4 (List.mem_of_getElem? (i := 72) rfl)) rfl
theorem wC_X7_letter : Cond.code yX7_letter prog_9_method_7_code 1 (Option.some FieldType.int) ∈ lw_gt := in_g (in_t4 (List.mem_of_getElem? (i := 73) rfl)) rfl
theorem wW_X7_84 : Cond.constantLong RX7 84 (48 : Int64) ∈ lw_gt := in_g (in_t4 (List.mem_of_getElem? (i := 74) rfl)) rfl
theorem wW_X7_86 : Cond.constantLong RX7 86 (57 : Int64) ∈ lw_gt := in_g (in_t4 (List.mem_of_getElem? (i := 75) rfl)) rfl
theorem wM_X7_98 : Cond.methodLink RX7 98 yX7_readNumber ∈ lw_gt := in_g (in_t4 (List.mem_of_getElem? (i := 76) rfl)) rfl
theorem wI_X7_readNumber : Cond.instanceMethod yX7_readNumber ∈ lw_gt := in_g (in_t4 (List.mem_of_getElem? (i := 78) rfl)) rfl
theorem wC_X7_readNumber : Cond.code yX7_readNumber prog_9_method_8_code 1 (Option.none : Option FieldType) ∈ lw_gt := in_g (in_t4 (List.mem_of_getElem? (i := 79) rfl)) rfl
theorem wW_X7_94 : Cond.constantLong RX7 94 (97 : Int64) ∈ lw_gt := in_g (in_t4 (List.mem_of_getElem? (i := 80) rfl)) rfl
theorem wW_X7_96 : Cond.constantLong RX7 96 (122 : Int64) ∈ lw_gt := in_g (in_t4 (List.mem_of_getElem? (i := 81) rfl)) rfl
theorem wM_X7_101 : Cond.methodLink RX7 101 yX7_readLetters ∈ lw_gt := in_g (in_t4 (List.mem_of_getElem? (i := 82) rfl)) rfl
theorem wI_X7_readLetters : Cond.instanceMethod yX7_readLetters ∈ lw_gt := in_g (in_t4 (List.mem_of_getElem? (i := 84) rfl)) rfl
theorem wC_X7_readLetters : Cond.code yX7_readLetters prog_9_method_9_code 1 (Option.none : Option FieldType) ∈ lw_gt := in_g (in_t4 (List.mem_of_getElem? (i := 85) rfl)) rfl
theorem wM_X7_130 : Cond.methodLink RX7 130 yX7_readItem ∈ lw_gt := in_g (in_t4 (List.mem_of_getElem? (i := 86) rfl)) rfl
theorem wI_X7_readItem : Cond.instanceMethod yX7_readItem ∈ lw_gt := in_g (in_t4 (List.mem_of_getElem? (i := 88) rfl)) rfl
theorem wC_X7_readItem : Cond.code yX7_readItem prog_9_method_15_code 4 (Option.some FieldType.boolean) ∈ lw_gt := in_g (in_t4 (List.mem_of_getElem? (i := 89) rfl)) rfl
theorem wM_X7_117 : Cond.methodLink RX7 117 yX7_readTrays ∈ lw_gt := in_g (in_t4 (List.mem_of_getElem? (i := 90) rfl)) rfl
theorem wI_X7_readTrays : Cond.instanceMethod yX7_readTrays ∈ lw_gt := in_g (in_t4 (List.mem_of_getElem? (i := 92) rfl)) rfl
theorem wC_X7_readTrays : Cond.code yX7_readTrays prog_9_method_13_code 3 (Option.some FieldType.boolean) ∈ lw_gt := in_g (in_t4 (List.mem_of_getElem? (i := 93) rfl)) rfl
theorem wM_X7_107 : Cond.methodLink RX7 107 yX7_takesNumber ∈ lw_gt := in_g (in_t4 (List.mem_of_getElem? (i := 94) rfl)) rfl
theorem wI_X7_takesNumber : Cond.instanceMethod yX7_takesNumber ∈ lw_gt := in_g (in_t4 (List.mem_of_getElem? (i := 96) rfl)) rfl
theorem wC_X7_takesNumber : Cond.code yX7_takesNumber prog_9_method_11_code 3 (Option.some FieldType.boolean) ∈ lw_gt := in_g (in_t4 (List.mem_of_getElem? (i := 97) rfl)) rfl
theorem wM_X7_124 : Cond.methodLink RX7 124 yX7_readJob ∈ lw_gt := in_g (in_t4 (List.mem_of_getElem? (i := 98) rfl)) rfl
theorem wI_X7_readJob : Cond.instanceMethod yX7_readJob ∈ lw_gt := in_g (in_t4 (List.mem_of_getElem? (i := 100) rfl)) rfl
theorem wC_X7_readJob : Cond.code yX7_readJob prog_9_method_14_code 3 (Option.some FieldType.boolean) ∈ lw_gt := in_g (in_t4 (List.mem_of_getElem? (i := 101) rfl)) rfl
theorem wM_X7_127 : Cond.methodLink RX7 127 yX7_ends ∈ lw_gt := in_g (in_t4 (List.mem_of_getElem? (i := 102) rfl)) rfl
theorem wI_X7_ends : Cond.instanceMethod yX7_ends ∈ lw_gt := in_g (in_t4 (List.mem_of_getElem? (i := 104) rfl)) rfl
theorem wC_X7_ends : Cond.code yX7_ends prog_9_method_12_code 1 (Option.some FieldType.boolean) ∈ lw_gt := in_g (in_t4 (List.mem_of_getElem? (i := 105) rfl)) rfl
theorem wM_L_36 : Cond.methodLink RL 36 yX7_sheet ∈ lw_gt := in_g (in_t4 (List.mem_of_getElem? (i := 106) rfl)) rfl
theorem wI_X7_sheet : Cond.instanceMethod yX7_sheet ∈ lw_gt := in_g (in_t4 (List.mem_of_getElem? (i := 107) rfl)) rfl
theorem wS_X7_sheet : Cond.selects RX7 yX7_sheet yX7_sheet ∈ lw_gt := in_g (in_t4 (List.mem_of_getElem? (i := 108) rfl)) rfl
theorem wC_X7_sheet : Cond.code yX7_sheet prog_9_method_26_code 4 (Option.some FieldType.int) ∈ lw_gt := in_g (in_t4 (List.mem_of_getElem? (i := 109) rfl)) rfl
theorem wM_X7_156 : Cond.methodLink RX7 156 yX7_isJob ∈ lw_gt := in_g (in_t4 (List.mem_of_getElem? (i := 110) rfl)) rfl
theorem wI_X7_isJob : Cond.instanceMethod yX7_isJob ∈ lw_gt := in_g (in_t4 (List.mem_of_getElem? (i := 112) rfl)) rfl
theorem wC_X7_isJob : Cond.code yX7_isJob prog_9_method_4_code 2 (Option.some FieldType.boolean) ∈ lw_gt := in_g (in_t4 (List.mem_of_getElem? (i := 113) rfl)) rfl
theorem wM_X7_160 : Cond.methodLink RX7 160 yX7_allOf ∈ lw_gt := in_g (in_t4 (List.mem_of_getElem? (i := 114) rfl)) rfl
theorem wI_X7_allOf : Cond.instanceMethod yX7_allOf ∈ lw_gt := in_g (in_t4 (List.mem_of_getElem? (i := 116) rfl)) rfl
theorem wC_X7_allOf : Cond.code yX7_allOf prog_9_method_19_code 2 (Option.some FieldType.int) ∈ lw_gt := in_g (in_t4 (List.mem_of_getElem? (i := 117) rfl)) rfl
theorem wM_X7_139 : Cond.methodLink RX7 139 yX7_leaves ∈ lw_gt := in_g (in_t4 (List.mem_of_getElem? (i := 118) rfl)) rfl
theorem wI_X7_leaves : Cond.instanceMethod yX7_leaves ∈ lw_gt := in_g (in_t4 (List.mem_of_getElem? (i := 120) rfl)) rfl
theorem wC_X7_leaves : Cond.code yX7_leaves prog_9_method_18_code 2 (Option.some FieldType.int) ∈ lw_gt := in_g (in_t4 (List.mem_of_getElem? (i := 121) rfl)) rfl
theorem wM_X7_150 : Cond.methodLink RX7 150 yX7_copyOf ∈ lw_gt := in_g (in_t4 (List.mem_of_getElem? (i := 122) rfl)) rfl
theorem wI_X7_copyOf : Cond.instanceMethod yX7_copyOf ∈ lw_gt := in_g (in_t4 (List.mem_of_getElem? (i := 124) rfl)) rfl
theorem wC_X7_copyOf : Cond.code yX7_copyOf prog_9_method_20_code 3 (Option.some FieldType.int) ∈ lw_gt := in_g (in_t4 (List.mem_of_getElem? (i := 125) rfl)) rfl
theorem wM_X7_147 : Cond.methodLink RX7 147 yX7_frontOf ∈ lw_gt := in_g (in_t4 (List.mem_of_getElem? (i := 126) rfl)) rfl
theorem wI_X7_frontOf : Cond.instanceMethod yX7_frontOf ∈ lw_gt := in_g (in_t4 (List.mem_of_getElem? (i := 128) rfl)) rfl
theorem wC_X7_frontOf : Cond.code yX7_frontOf prog_9_method_22_code 3 (Option.some FieldType.int) ∈ lw_gt := in_g (in_t4 (List.mem_of_getElem? (i := 129) rfl)) rfl
theorem wM_X7_143 : Cond.methodLink RX7 143 yX7_leafOf ∈ lw_gt := in_g (in_t4 (List.mem_of_getElem? (i := 130) rfl)) rfl
theorem wI_X7_leafOf : Cond.instanceMethod yX7_leafOf ∈ lw_gt := in_g (in_t4 (List.mem_of_getElem? (i := 132) rfl)) rfl
theorem wC_X7_leafOf : Cond.code yX7_leafOf prog_9_method_21_code 3 (Option.some FieldType.int) ∈ lw_gt := in_g (in_t4 (List.mem_of_getElem? (i := 133) rfl)) rfl
theorem wM_X7_153 : Cond.methodLink RX7 153 yX7_backOf ∈ lw_gt := in_g (in_t4 (List.mem_of_getElem? (i := 134) rfl)) rfl
theorem wI_X7_backOf : Cond.instanceMethod yX7_backOf ∈ lw_gt := in_g (in_t4 (List.mem_of_getElem? (i := 136) rfl)) rfl
theorem wC_X7_backOf : Cond.code yX7_backOf prog_9_method_23_code 4 (Option.some FieldType.int) ∈ lw_gt := in_g (in_t4 (List.mem_of_getElem? (i := 137) rfl)) rfl
theorem wM_X7_163 : Cond.methodLink RX7 163 yX7_binOf ∈ lw_gt := in_g (in_t4 (List.mem_of_getElem? (i := 138) rfl)) rfl
theorem wI_X7_binOf : Cond.instanceMethod yX7_binOf ∈ lw_gt := in_g (in_t4 (List.mem_of_getElem? (i := 140) rfl)) rfl
theorem wC_X7_binOf : Cond.code yX7_binOf prog_9_method_24_code 3 (Option.some FieldType.int) ∈ lw_gt := in_g (in_t4 (List.mem_of_getElem? (i := 141) rfl)) rfl
theorem wM_L_40 : Cond.methodLink RL 40 yX7_where ∈ lw_gt := in_g (in_t4 (List.mem_of_getElem? (i := 142) rfl)) rfl
theorem wI_X7_where : Cond.instanceMethod yX7_where ∈ lw_gt := in_g (in_t4 (List.mem_of_getElem? (i := 143) rfl)) rfl
theorem wS_X7_where : Cond.selects RX7 yX7_where yX7_where ∈ lw_gt := in_g (in_t4 (List.mem_of_getElem? (i := 144) rfl)) rfl
theorem wC_X7_where : Cond.code yX7_where prog_9_method_28_code 5 (Option.some FieldType.int) ∈ lw_gt := in_g (in_t4 (List.mem_of_getElem? (i := 145) rfl)) rfl
theorem wM_X7_166 : Cond.methodLink RX7 166 yX7_isPage ∈ lw_gt := in_g (in_t4 (List.mem_of_getElem? (i := 146) rfl)) rfl
theorem wI_X7_isPage : Cond.instanceMethod yX7_isPage ∈ lw_gt := in_g (in_t4 (List.mem_of_getElem? (i := 148) rfl)) rfl
theorem wC_X7_isPage : Cond.code yX7_isPage prog_9_method_27_code 3 (Option.some FieldType.boolean) ∈ lw_gt := in_g (in_t4 (List.mem_of_getElem? (i := 149) rfl)) rfl
theorem wM_L_52 : Cond.methodLink RL 52 yX7_ticks ∈ lw_gt := in_g (in_t4 (List.mem_of_getElem? (i := 150) rfl)) rfl
theorem wI_X7_ticks : Cond.instanceMethod yX7_ticks ∈ lw_gt := in_g (in_t4 (List.mem_of_getElem? (i := 151) rfl)) rfl
theorem wS_X7_ticks : Cond.selects RX7 yX7_ticks yX7_ticks ∈ lw_gt := in_g (in_t4 (List.mem_of_getElem? (i := 152) rfl)) rfl
theorem wC_X7_ticks : Cond.code yX7_ticks prog_9_method_34_code 4 (Option.some FieldType.int) ∈ lw_gt := in_g (in_t4 (List.mem_of_getElem? (i := 153) rfl)) rfl
theorem wW_X7_179 : Cond.constantLong RX7 179 (20 : Int64) ∈ lw_gt := in_g (in_t4 (List.mem_of_getElem? (i := 154) rfl)) rfl
theorem wM_X7_181 : Cond.methodLink RX7 181 yX7_note ∈ lw_gt := in_g (in_t4 (List.mem_of_getElem? (i := 155) rfl)) rfl
theorem wI_X7_note : Cond.instanceMethod yX7_note ∈ lw_gt := in_g (in_t4 (List.mem_of_getElem? (i := 157) rfl)) rfl
theorem wC_X7_note : Cond.code yX7_note prog_9_method_33_code 2 (Option.none : Option FieldType) ∈ lw_gt := in_g (in_t4 (List.mem_of_getElem? (i := 158) rfl)) rfl
theorem wM_X7_184 : Cond.methodLink RX7 184 yX7_oneTick ∈ lw_gt := in_g (in_t4 (List.mem_of_getElem? (i := 159) rfl)) rfl
theorem wI_X7_oneTick : Cond.instanceMethod yX7_oneTick ∈ lw_gt := in_g (in_t4 (List.mem_of_getElem? (i := 161) rfl)) rfl
theorem wC_X7_oneTick : Cond.code yX7_oneTick prog_9_method_32_code 4 (Option.some FieldType.int) ∈ lw_gt := in_g (in_t4 (List.mem_of_getElem? (i := 162) rfl)) rfl
theorem wM_X7_172 : Cond.methodLink RX7 172 yX7_stands ∈ lw_gt := in_g (in_t4 (List.mem_of_getElem? (i := 163) rfl)) rfl
theorem wI_X7_stands : Cond.instanceMethod yX7_stands ∈ lw_gt := in_g (in_t4 (List.mem_of_getElem? (i := 165) rfl)) rfl
theorem wC_X7_stands : Cond.code yX7_stands prog_9_method_30_code 3 (Option.some FieldType.int) ∈ lw_gt := in_g (in_t4 (List.mem_of_getElem? (i := 166) rfl)) rfl
theorem wM_X7_169 : Cond.methodLink RX7 169 yX7_sidesOf ∈ lw_gt := in_g (in_t4 (List.mem_of_getElem? (i := 167) rfl)) rfl
theorem wI_X7_sidesOf : Cond.instanceMethod yX7_sidesOf ∈ lw_gt := in_g (in_t4 (List.mem_of_getElem? (i := 169) rfl)) rfl
theorem wC_X7_sidesOf : Cond.code yX7_sidesOf prog_9_method_25_code 3 (Option.some FieldType.int) ∈ lw_gt := in_g (in_t4 (List.mem_of_getElem? (i := 170) rfl)) rfl
theorem wM_X7_175 : Cond.methodLink RX7 175 yX7_leaveAt ∈ lw_gt := in_g (in_t4 (List.mem_of_getElem? (i := 171) rfl)) rfl
theorem wI_X7_leaveAt : Cond.instanceMethod yX7_leaveAt ∈ lw_gt := in_g (in_t4 (List.mem_of_getElem? (i := 173) rfl)) rfl
theorem wC_X7_leaveAt : Cond.code yX7_leaveAt prog_9_method_31_code 3 (Option.none : Option FieldType) ∈ lw_gt := in_g (in_t4 (List.mem_of_getElem? (i := 174) rfl)) rfl
theorem wM_L_56 : Cond.methodLink RL 56 yX7_ahead ∈ lw_gt := in_g (in_t4 (List.mem_of_getElem? (i := 175) rfl)) rfl
theorem wI_X7_ahead : Cond.instanceMethod yX7_ahead ∈ lw_gt := in_g (in_t4 (List.mem_of_getElem? (i := 176) rfl)) rfl
theorem wS_X7_ahead : Cond.selects RX7 yX7_ahead yX7_ahead ∈ lw_gt := in_g (in_t4 (List.mem_of_getElem? (i := 177) rfl)) rfl
theorem wC_X7_ahead : Cond.code yX7_ahead prog_9_method_35_code 5 (Option.some FieldType.int) ∈ lw_gt := in_g (in_t4 (List.mem_of_getElem? (i := 178) rfl)) rfl
theorem wM_X7_187 : Cond.methodLink RX7 187 yX7_placeOf ∈ lw_gt := in_g (in_t4 (List.mem_of_getElem? (i := 179) rfl)) rfl
theorem wI_X7_placeOf : Cond.instanceMethod yX7_placeOf ∈ lw_gt := in_g (in_t4 (List.mem_of_getElem? (i := 181) rfl)) rfl
theorem wC_X7_placeOf : Cond.code yX7_placeOf prog_9_method_29_code 3 (Option.some FieldType.int) ∈ lw_gt := in_g (in_t4 (List.mem_of_getElem? (i := 182) rfl)) rfl
theorem wM_L_60 : Cond.methodLink RL 60 yX7_breaks ∈ lw_gt := in_g (in_t4 (List.mem_of_getElem? (i := 183) rfl)) rfl
theorem wI_X7_breaks : Cond.instanceMethod yX7_breaks ∈ lw_gt := in_g (in_t4 (List.mem_of_getElem? (i := 184) rfl)) rfl
theorem wS_X7_breaks : Cond.selects RX7 yX7_breaks yX7_breaks ∈ lw_gt := in_g (in_t4 (List.mem_of_getElem? (i := 185) rfl)) rfl
theorem wC_X7_breaks : Cond.code yX7_breaks prog_9_method_36_code 3 (Option.some FieldType.int) ∈ lw_gt := in_g (in_t4 (List.mem_of_getElem? (i := 186) rfl)) rfl
theorem wM_L_64 : Cond.methodLink RL 64 yX7_fills ∈ lw_gt := in_g (in_t4 (List.mem_of_getElem? (i := 187) rfl)) rfl
theorem wI_X7_fills : Cond.instanceMethod yX7_fills ∈ lw_gt := in_g (in_t4 (List.mem_of_getElem? (i := 188) rfl)) rfl
theorem wS_X7_fills : Cond.selects RX7 yX7_fills yX7_fills ∈ lw_gt := in_g (in_t4 (List.mem_of_getElem? (i := 189) rfl)) rfl
theorem wC_X7_fills : Cond.code yX7_fills prog_9_method_37_code 4 (Option.some FieldType.int) ∈ lw_gt := in_g (in_t4 (List.mem_of_getElem? (i := 190) rfl)) rfl
theorem wW_X7_190 : Cond.constantLong RX7 190 (2 : Int64) ∈ lw_gt := in_g (in_t4 (List.mem_of_getElem? (i := 191) rfl)) rfl
theorem wW_X7_192 : Cond.constantLong RX7 192 (99 : Int64) ∈ lw_gt := in_g (in_t4 (List.mem_of_getElem? (i := 192) rfl)) rfl
theorem wM_L_68 : Cond.methodLink RL 68 yX7_toner ∈ lw_gt := in_g (in_t4 (List.mem_of_getElem? (i := 193) rfl)) rfl
theorem wI_X7_toner : Cond.instanceMethod yX7_toner ∈ lw_gt := in_g (in_t4 (List.mem_of_getElem? (i := 194) rfl)) rfl
theorem wS_X7_toner : Cond.selects RX7 yX7_toner yX7_toner ∈ lw_gt := in_g (in_t4 (List.mem_of_getElem? (i := 195) rfl)) rfl
theorem wC_X7_toner : Cond.code yX7_toner prog_9_method_38_code 3 (Option.some FieldType.int) ∈ lw_gt := in_g (in_t4 (List.mem_of_getElem? (i := 196) rfl)) rfl
theorem wW_X7_194 : Cond.constantLong RX7 194 (999 : Int64) ∈ lw_gt := in_g (in_t4 (List.mem_of_getElem? (i := 197) rfl)) rfl
theorem wM_L_72 : Cond.methodLink RL 72 yX7_empties ∈ lw_gt := in_g (in_t4 (List.mem_of_getElem? (i := 198) rfl)) rfl
theorem wI_X7_empties : Cond.instanceMethod yX7_empties ∈ lw_gt := in_g (in_t4 (List.mem_of_getElem? (i := 199) rfl)) rfl
theorem wS_X7_empties : Cond.selects RX7 yX7_empties yX7_empties ∈ lw_gt := in_g (in_t4 (List.mem_of_getElem? (i := 200) rfl)) rfl
theorem wC_X7_empties : Cond.code yX7_empties prog_9_method_39_code 3 (Option.some FieldType.int) ∈ lw_gt := in_g (in_t4 (List.mem_of_getElem? (i := 201) rfl)) rfl
theorem wM_L_76 : Cond.methodLink RL 76 yX7_undo ∈ lw_gt := in_g (in_t4 (List.mem_of_getElem? (i := 202) rfl)) rfl
theorem wI_X7_undo : Cond.instanceMethod yX7_undo ∈ lw_gt := in_g (in_t4 (List.mem_of_getElem? (i := 203) rfl)) rfl
theorem wS_X7_undo : Cond.selects RX7 yX7_undo yX7_undo ∈ lw_gt := in_g (in_t4 (List.mem_of_getElem? (i := 204) rfl)) rfl
theorem wC_X7_undo : Cond.code yX7_undo prog_9_method_40_code 2 (Option.some FieldType.int) ∈ lw_gt := in_g (in_t4 (List.mem_of_getElem? (i := 205) rfl)) rfl
theorem wM_L_31 : Cond.methodLink RL 31 yX7_job ∈ lw_gt := in_g (in_t4 (List.mem_of_getElem? (i := 206) rfl)) rfl
theorem wI_X7_job : Cond.instanceMethod yX7_job ∈ lw_gt := in_g (in_t4 (List.mem_of_getElem? (i := 207) rfl)) rfl
theorem wS_X7_job : Cond.selects RX7 yX7_job yX7_job ∈ lw_gt := in_g (in_t4 (List.mem_of_getElem? (i := 208) rfl)) rfl
theorem wC_X7_job : Cond.code yX7_job prog_9_method_43_code 3 (Option.some FieldType.int) ∈ lw_gt := in_g (in_t4 (List.mem_of_getElem? (i := 209) rfl)) rfl
theorem wM_X7_196 : Cond.methodLink RX7 196 yX7_inTicks ∈ lw_gt := in_g (in_t4 (List.mem_of_getElem? (i := 210) rfl)) rfl
theorem wI_X7_inTicks : Cond.instanceMethod yX7_inTicks ∈ lw_gt := in_g (in_t4 (List.mem_of_getElem? (i := 212) rfl)) rfl
theorem wC_X7_inTicks : Cond.code yX7_inTicks prog_9_method_41_code 5 (Option.some FieldType.int) ∈ lw_gt := in_g (in_t4 (List.mem_of_getElem? (i := 213) rfl)) rfl
theorem wM_X7_199 : Cond.methodLink RX7 199 yX7_leftOf ∈ lw_gt := in_g (in_t4 (List.mem_of_getElem? (i := 214) rfl)) rfl
theorem wI_X7_leftOf : Cond.instanceMethod yX7_leftOf ∈ lw_gt := in_g (in_t4 (List.mem_of_getElem? (i := 216) rfl)) rfl
theorem wC_X7_leftOf : Cond.code yX7_leftOf prog_9_method_42_code 4 (Option.some FieldType.int) ∈ lw_gt := in_g (in_t4 (List.mem_of_getElem? (i := 217) rfl)) rfl
theorem wM_L_44 : Cond.methodLink RL 44 yX7_tray ∈ lw_gt := in_g (in_t4 (List.mem_of_getElem? (i := 218) rfl)) rfl
theorem wI_X7_tray : Cond.instanceMethod yX7_tray ∈ lw_gt := in_g (in_t4 (List.mem_of_getElem? (i := 219) rfl)) rfl
theorem wS_X7_tray : Cond.selects RX7 yX7_tray yX7_tray ∈ lw_gt := in_g (in_t4 (List.mem_of_getElem? (i := 220) rfl)) rfl
theorem wC_X7_tray : Cond.code yX7_tray prog_9_method_46_code 3 (Option.some FieldType.int) ∈ lw_gt := in_g (in_t4 (List.mem_of_getElem? (i := 221) rfl)) rfl
theorem wM_X7_202 : Cond.methodLink RX7 202 yX7_isPart ∈ lw_gt := in_g (in_t4 (List.mem_of_getElem? (i := 222) rfl)) rfl
theorem wT_X7_isPart : Cond.static yX7_isPart ∈ lw_gt := in_g (in_t4 (List.mem_of_getElem? (i := 223) rfl)) rfl
theorem wC_X7_isPart : Cond.code yX7_isPart prog_9_method_3_code 1 (Option.some FieldType.boolean) ∈ lw_gt := in_g (in_t4 (List.mem_of_getElem? (i := 224) rfl)) rfl
theorem wM_X7_205 : Cond.methodLink RX7 205 yX7_wantsOf ∈ lw_gt := in_g (in_t4 (List.mem_of_getElem? (i := 225) rfl)) rfl
theorem wI_X7_wantsOf : Cond.instanceMethod yX7_wantsOf ∈ lw_gt := in_g (in_t4 (List.mem_of_getElem? (i := 227) rfl)) rfl
theorem wC_X7_wantsOf : Cond.code yX7_wantsOf prog_9_method_44_code 4 (Option.some FieldType.int) ∈ lw_gt := in_g (in_t4 (List.mem_of_getElem? (i := 228) rfl)) rfl
theorem wM_L_48 : Cond.methodLink RL 48 yX7_bin ∈ lw_gt := in_g (in_t4 (List.mem_of_getElem? (i := 229) rfl)) rfl
theorem wI_X7_bin : Cond.instanceMethod yX7_bin ∈ lw_gt := in_g (in_t4 (List.mem_of_getElem? (i := 230) rfl)) rfl
theorem wS_X7_bin : Cond.selects RX7 yX7_bin yX7_bin ∈ lw_gt := in_g (in_t4 (List.mem_of_getElem? (i := 231) rfl)) rfl
theorem wC_X7_bin : Cond.code yX7_bin prog_9_method_47_code 2 (Option.some FieldType.int) ∈ lw_gt := in_g (in_t4 (List.mem_of_getElem? (i := 232) rfl)) rfl
theorem wM_L_80 : Cond.methodLink RL 80 yX7_now ∈ lw_gt := in_g (in_t4 (List.mem_of_getElem? (i := 233) rfl)) rfl
theorem wI_X7_now : Cond.instanceMethod yX7_now ∈ lw_gt := in_g (in_t4 (List.mem_of_getElem? (i := 234) rfl)) rfl
theorem wS_X7_now : Cond.selects RX7 yX7_now yX7_now ∈ lw_gt := in_g (in_t4 (List.mem_of_getElem? (i := 235) rfl)) rfl
theorem wC_X7_now : Cond.code yX7_now prog_9_method_49_code 2 (Option.some FieldType.int) ∈ lw_gt := in_g (in_t4 (List.mem_of_getElem? (i := 236) rfl)) rfl
theorem wM_X7_208 : Cond.methodLink RX7 208 yX7_inBins ∈ lw_gt := in_g (in_t4 (List.mem_of_getElem? (i := 237) rfl)) rfl
theorem wI_X7_inBins : Cond.instanceMethod yX7_inBins ∈ lw_gt := in_g (in_t4 (List.mem_of_getElem? (i := 239) rfl)) rfl
theorem wC_X7_inBins : Cond.code yX7_inBins prog_9_method_48_code 3 (Option.some FieldType.int) ∈ lw_gt := in_g (in_t5 (List.mem_of_getElem? (i := 0) rfl)) rfl
theorem wM_X7_211 : Cond.methodLink RX7 211 yX7_wantsInk ∈ lw_gt := in_g (in_t5 (List.mem_of_getElem? (i := 1) rfl)) rfl
theorem wI_X7_wantsInk : Cond.instanceMethod yX7_wantsInk ∈ lw_gt := in_g (in_t5 (List.mem_of_getElem? (i := 3) rfl)) rfl
theorem wC_X7_wantsInk : Cond.code yX7_wantsInk prog_9_method_45_code 3 (Option.some FieldType.int) ∈ lw_gt := in_g (in_t5 (List.mem_of_getElem? (i := 4) rfl)) rfl
theorem wM_L_84 : Cond.methodLink RL 84 yX7_soon ∈ lw_gt := in_g (in_t5 (List.mem_of_getElem? (i := 5) rfl)) rfl
theorem wI_X7_soon : Cond.instanceMethod yX7_soon ∈ lw_gt := in_g (in_t5 (List.mem_of_getElem? (i := 6) rfl)) rfl
theorem wS_X7_soon : Cond.selects RX7 yX7_soon yX7_soon ∈ lw_gt := in_g (in_t5 (List.mem_of_getElem? (i := 7) rfl)) rfl
theorem wC_X7_soon : Cond.code yX7_soon prog_9_method_51_code 7 (Option.some FieldType.int) ∈ lw_gt := in_g (in_t5 (List.mem_of_getElem? (i := 8) rfl)) rfl
theorem wM_X7_214 : Cond.methodLink RX7 214 yX7_shortest ∈ lw_gt := in_g (in_t5 (List.mem_of_getElem? (i := 9) rfl)) rfl
theorem wI_X7_shortest : Cond.instanceMethod yX7_shortest ∈ lw_gt := in_g (in_t5 (List.mem_of_getElem? (i := 11) rfl)) rfl
theorem wC_X7_shortest : Cond.code yX7_shortest prog_9_method_50_code 4 (Option.some FieldType.int) ∈ lw_gt := in_g (in_t5 (List.mem_of_getElem? (i := 12) rfl)) rfl
theorem wM_L_89 : Cond.methodLink RL 89 yX7_odds ∈ lw_gt := in_g (in_t5 (List.mem_of_getElem? (i := 13) rfl)) rfl
theorem wI_X7_odds : Cond.instanceMethod yX7_odds ∈ lw_gt := in_g (in_t5 (List.mem_of_getElem? (i := 14) rfl)) rfl
theorem wS_X7_odds : Cond.selects RX7 yX7_odds yX7_odds ∈ lw_gt := in_g (in_t5 (List.mem_of_getElem? (i := 15) rfl)) rfl
theorem wC_X7_odds : Cond.code yX7_odds prog_9_method_53_code 17 (Option.some FieldType.int) ∈ lw_gt := in_g (in_t5 (List.mem_of_getElem? (i := 16) rfl)) rfl
theorem wW_X7_217 : Cond.constantLong RX7 217 (4 : Int64) ∈ lw_gt := in_g (in_t5 (List.mem_of_getElem? (i := 17) rfl)) rfl
theorem wM_X7_219 : Cond.methodLink RX7 219 yX7_choose ∈ lw_gt := in_g (in_t5 (List.mem_of_getElem? (i := 18) rfl)) rfl
theorem wT_X7_choose : Cond.static yX7_choose ∈ lw_gt := in_g (in_t5 (List.mem_of_getElem? (i := 19) rfl)) rfl
theorem wC_X7_choose : Cond.code yX7_choose prog_9_method_52_code 5 (Option.some FieldType.long) ∈ lw_gt := in_g (in_t5 (List.mem_of_getElem? (i := 20) rfl)) rfl
theorem wM_L_93 : Cond.methodLink RL 93 yX7_sees ∈ lw_gt := in_g (in_t5 (List.mem_of_getElem? (i := 21) rfl)) rfl
theorem wI_X7_sees : Cond.instanceMethod yX7_sees ∈ lw_gt := in_g (in_t5 (List.mem_of_getElem? (i := 22) rfl)) rfl
theorem wS_X7_sees : Cond.selects RX7 yX7_sees yX7_sees ∈ lw_gt := in_g (in_t5 (List.mem_of_getElem? (i := 23) rfl)) rfl
theorem wC_X7_sees : Cond.code yX7_sees prog_9_method_54_code 4 (Option.some FieldType.int) ∈ lw_gt := in_g (in_t5 (List.mem_of_getElem? (i := 24) rfl)) rfl
theorem wW_X7_223 : Cond.constantLong RX7 223 (80 : Int64) ∈ lw_gt := in_g (in_t5 (List.mem_of_getElem? (i := 25) rfl)) rfl
theorem wW_X7_225 : Cond.constantLong RX7 225 (9 : Int64) ∈ lw_gt := in_g (in_t5 (List.mem_of_getElem? (i := 26) rfl)) rfl
theorem wM_L_97 : Cond.methodLink RL 97 yX7_forget ∈ lw_gt := in_g (in_t5 (List.mem_of_getElem? (i := 27) rfl)) rfl
theorem wI_X7_forget : Cond.instanceMethod yX7_forget ∈ lw_gt := in_g (in_t5 (List.mem_of_getElem? (i := 28) rfl)) rfl
theorem wS_X7_forget : Cond.selects RX7 yX7_forget yX7_forget ∈ lw_gt := in_g (in_t5 (List.mem_of_getElem? (i := 29) rfl)) rfl
theorem wC_X7_forget : Cond.code yX7_forget prog_9_method_55_code 2 (Option.some FieldType.int) ∈ lw_gt := in_g (in_t5 (List.mem_of_getElem? (i := 30) rfl)) rfl
theorem wM_L_101 : Cond.methodLink RL 101 yX7_whose ∈ lw_gt := in_g (in_t5 (List.mem_of_getElem? (i := 31) rfl)) rfl
theorem wI_X7_whose : Cond.instanceMethod yX7_whose ∈ lw_gt := in_g (in_t5 (List.mem_of_getElem? (i := 32) rfl)) rfl
theorem wS_X7_whose : Cond.selects RX7 yX7_whose yX7_whose ∈ lw_gt := in_g (in_t5 (List.mem_of_getElem? (i := 33) rfl)) rfl
theorem wC_X7_whose : Cond.code yX7_whose prog_9_method_57_code 5 (Option.some FieldType.int) ∈ lw_gt := in_g (in_t5 (List.mem_of_getElem? (i := 34) rfl)) rfl
theorem wM_X7_227 : Cond.methodLink RX7 227 yX7_hasInFront ∈ lw_gt := in_g (in_t5 (List.mem_of_getElem? (i := 35) rfl)) rfl
theorem wI_X7_hasInFront : Cond.instanceMethod yX7_hasInFront ∈ lw_gt := in_g (in_t5 (List.mem_of_getElem? (i := 37) rfl)) rfl
theorem wC_X7_hasInFront : Cond.code yX7_hasInFront prog_9_method_56_code 4 (Option.some FieldType.boolean) ∈ lw_gt := in_g (in_t5 (List.mem_of_getElem? (i := 38) rfl)) rfl
theorem wM_L_105 : Cond.methodLink RL 105 yX7_look ∈ lw_gt := in_g (in_t5 (List.mem_of_getElem? (i := 39) rfl)) rfl
theorem wI_X7_look : Cond.instanceMethod yX7_look ∈ lw_gt := in_g (in_t5 (List.mem_of_getElem? (i := 40) rfl)) rfl
theorem wS_X7_look : Cond.selects RX7 yX7_look yX7_look ∈ lw_gt := in_g (in_t5 (List.mem_of_getElem? (i := 41) rfl)) rfl
theorem wC_X7_look : Cond.code yX7_look prog_9_method_58_code 9 (Option.some FieldType.int) ∈ lw_gt := in_g (in_t5 (List.mem_of_getElem? (i := 42) rfl)) rfl
theorem wM_X7_231 : Cond.methodLink RX7 231 yX7_whose ∈ lw_gt := in_g (in_t5 (List.mem_of_getElem? (i := 43) rfl)) rfl
theorem wM_L_109 : Cond.methodLink RL 109 yX7_mark ∈ lw_gt := in_g (in_t5 (List.mem_of_getElem? (i := 44) rfl)) rfl
theorem wI_X7_mark : Cond.instanceMethod yX7_mark ∈ lw_gt := in_g (in_t5 (List.mem_of_getElem? (i := 45) rfl)) rfl
theorem wS_X7_mark : Cond.selects RX7 yX7_mark yX7_mark ∈ lw_gt := in_g (in_t5 (List.mem_of_getElem? (i := 46) rfl)) rfl
theorem wC_X7_mark : Cond.code yX7_mark prog_9_method_65_code 3 (Option.some FieldType.int) ∈ lw_gt := in_g (in_t5 (List.mem_of_getElem? (i := 47) rfl)) rfl
theorem wW_X7_257 : Cond.constantLong RX7 257 (5 : Int64) ∈ lw_gt := in_g (in_t5 (List.mem_of_getElem? (i := 48) rfl)) rfl
theorem wV_X7_259 : Cond.constant RX7 259 (-1000000 : Int32) ∈ lw_gt := in_g (in_t5 (List.mem_of_getElem? (i := 49) rfl)) rfl
theorem wM_X7_240 : Cond.methodLink RX7 240 yX7_asJob ∈ lw_gt := in_g (in_t5 (List.mem_of_getElem? (i := 50) rfl)) rfl
theorem wI_X7_asJob : Cond.instanceMethod yX7_asJob ∈ lw_gt := in_g (in_t5 (List.mem_of_getElem? (i := 52) rfl)) rfl
theorem wC_X7_asJob : Cond.code yX7_asJob prog_9_method_59_code 2 (Option.some FieldType.int) ∈ lw_gt := in_g (in_t5 (List.mem_of_getElem? (i := 53) rfl)) rfl
theorem wM_X7_247 : Cond.methodLink RX7 247 yX7_asMemo ∈ lw_gt := in_g (in_t5 (List.mem_of_getElem? (i := 54) rfl)) rfl
theorem wI_X7_asMemo : Cond.instanceMethod yX7_asMemo ∈ lw_gt := in_g (in_t5 (List.mem_of_getElem? (i := 56) rfl)) rfl
theorem wC_X7_asMemo : Cond.code yX7_asMemo prog_9_method_60_code 2 (Option.some FieldType.int) ∈ lw_gt := in_g (in_t5 (List.mem_of_getElem? (i := 57) rfl)) rfl
theorem wW_X7_238 : Cond.constantLong RX7 238 (10 : Int64) ∈ lw_gt := in_g (in_t5 (List.mem_of_getElem? (i := 58) rfl)) rfl
theorem wM_X7_252 : Cond.methodLink RX7 252 yX7_asReport ∈ lw_gt := in_g (in_t5 (List.mem_of_getElem? (i := 59) rfl)) rfl
theorem wI_X7_asReport : Cond.instanceMethod yX7_asReport ∈ lw_gt := in_g (in_t5 (List.mem_of_getElem? (i := 61) rfl)) rfl
theorem wC_X7_asReport : Cond.code yX7_asReport prog_9_method_61_code 2 (Option.some FieldType.int) ∈ lw_gt := in_g (in_t5 (List.mem_of_getElem? (i := 62) rfl)) rfl
theorem wW_X7_243 : Cond.constantLong RX7 243 (100 : Int64) ∈ lw_gt := in_g (in_t5 (List.mem_of_getElem? (i := 63) rfl)) rfl
theorem wM_X7_260 : Cond.methodLink RX7 260 yX7_asNotice ∈ lw_gt := in_g (in_t5 (List.mem_of_getElem? (i := 64) rfl)) rfl
theorem wI_X7_asNotice : Cond.instanceMethod yX7_asNotice ∈ lw_gt := in_g (in_t5 (List.mem_of_getElem? (i := 66) rfl)) rfl
theorem wC_X7_asNotice : Cond.code yX7_asNotice prog_9_method_62_code 2 (Option.some FieldType.int) ∈ lw_gt := in_g (in_t5 (List.mem_of_getElem? (i := 67) rfl)) rfl
theorem wW_X7_245 : Cond.constantLong RX7 245 (1000 : Int64) ∈ lw_gt := in_g (in_t5 (List.mem_of_getElem? (i := 68) rfl)) rfl
theorem wM_X7_263 : Cond.methodLink RX7 263 yX7_asLedger ∈ lw_gt := in_g (in_t5 (List.mem_of_getElem? (i := 69) rfl)) rfl
theorem wI_X7_asLedger : Cond.instanceMethod yX7_asLedger ∈ lw_gt := in_g (in_t5 (List.mem_of_getElem? (i := 71) rfl)) rfl
theorem wC_X7_asLedger : Cond.code yX7_asLedger prog_9_method_63_code 2 (Option.some FieldType.int) ∈ lw_gt := in_g (in_t5 (List.mem_of_getElem? (i := 72) rfl)) rfl
theorem wW_X7_250 : Cond.constantLong RX7 250 (10000 : Int64) ∈ lw_gt := in_g (in_t5 (List.mem_of_getElem? (i := 73) rfl)) rfl
theorem wM_X7_266 : Cond.methodLink RX7 266 yX7_asFlyer ∈ lw_gt := in_g (in_t5 (List.mem_of_getElem? (i := 74) rfl)) rfl
theorem wI_X7_asFlyer : Cond.instanceMethod yX7_asFlyer ∈ lw_gt := in_g (in_t5 (List.mem_of_getElem? (i := 76) rfl)) rfl
theorem wC_X7_asFlyer : Cond.code yX7_asFlyer prog_9_method_64_code 2 (Option.some FieldType.int) ∈ lw_gt := in_g (in_t5 (List.mem_of_getElem? (i := 77) rfl)) rfl
theorem wW_X7_255 : Cond.constantLong RX7 255 (100000 : Int64) ∈ lw_gt := in_g (in_t5 (List.mem_of_getElem? (i := 78) rfl)) rfl
theorem wM_L_113 : Cond.methodLink RL 113 yX7_keep ∈ lw_gt := in_g (in_t5 (List.mem_of_getElem? (i := 79) rfl)) rfl
theorem wI_X7_keep : Cond.instanceMethod yX7_keep ∈ lw_gt := in_g (in_t5 (List.mem_of_getElem? (i := 80) rfl)) rfl
theorem wS_X7_keep : Cond.selects RX7 yX7_keep yX7_keep ∈ lw_gt := in_g (in_t5 (List.mem_of_getElem? (i := 81) rfl)) rfl
theorem wC_X7_keep : Cond.code yX7_keep prog_9_method_66_code 4 (Option.some FieldType.int) ∈ lw_gt := in_g (in_t5 (List.mem_of_getElem? (i := 82) rfl)) rfl
theorem wM_L_117 : Cond.methodLink RL 117 yX7_back ∈ lw_gt := in_g (in_t5 (List.mem_of_getElem? (i := 83) rfl)) rfl
theorem wI_X7_back : Cond.instanceMethod yX7_back ∈ lw_gt := in_g (in_t5 (List.mem_of_getElem? (i := 84) rfl)) rfl
theorem wS_X7_back : Cond.selects RX7 yX7_back yX7_back ∈ lw_gt := in_g (in_t5 (List.mem_of_getElem? (i := 85) rfl)) rfl
theorem wC_X7_back : Cond.code yX7_back prog_9_method_67_code 4 (Option.some FieldType.int) ∈ lw_gt := in_g (in_t5 (List.mem_of_getElem? (i := 86) rfl)) rfl
theorem wM_L_121 : Cond.methodLink RL 121 yX7_count ∈ lw_gt := in_g (in_t5 (List.mem_of_getElem? (i := 87) rfl)) rfl
theorem wI_X7_count : Cond.instanceMethod yX7_count ∈ lw_gt := in_g (in_t5 (List.mem_of_getElem? (i := 88) rfl)) rfl
theorem wS_X7_count : Cond.selects RX7 yX7_count yX7_count ∈ lw_gt := in_g (in_t5 (List.mem_of_getElem? (i := 89) rfl)) rfl
theorem wC_X7_count : Cond.code yX7_count prog_9_method_68_code 2 (Option.some FieldType.int) ∈ lw_gt := in_g (in_t5 (List.mem_of_getElem? (i := 90) rfl)) rfl
theorem wM_L_126 : Cond.methodLink RL 126 yX7_trace ∈ lw_gt := in_g (in_t5 (List.mem_of_getElem? (i := 91) rfl)) rfl
theorem wI_X7_trace : Cond.instanceMethod yX7_trace ∈ lw_gt := in_g (in_t5 (List.mem_of_getElem? (i := 92) rfl)) rfl
theorem wS_X7_trace : Cond.selects RX7 yX7_trace yX7_trace ∈ lw_gt := in_g (in_t5 (List.mem_of_getElem? (i := 93) rfl)) rfl
theorem wC_X7_trace : Cond.code yX7_trace prog_9_method_69_code 1 (Option.some FieldType.long) ∈ lw_gt := in_g (in_t5 (List.mem_of_getElem? (i := 94) rfl)) rfl
