set_option maxHeartbeats 4000000 in
set_option maxRecDepth 100000 in
theorem s_X9_days (l : Launch) (dC : Nat → ClassId) (dI : Nat → Nat → Nat) (cy : Nat → ClassId) (sq : Nat → Nat) (a_this : Nat) (a_this_tape : Nat) (x_this_tapeSize : Int32) (a_this_plan : Nat) (x_this_plan_cycle : Int32) (x_this_plan_green : Int32) (x_this_plan_rule : Int32) (x_this_plan_least : Int32) (x_this_plan_away : Int32) (x_this_plan_statements : Int32) (x_this_plan_kinds : Int32) (a_this_plan_calm : Nat) (g_this_plan_calm : Nat → Int32) (a_this_plan_pace : Nat) (g_this_plan_pace : Nat → Int32) (a_this_plan_trusts : Nat) (x_this_plan_walkers : Int32) (a_this_plan_kindOf : Nat) (g_this_plan_kindOf : Nat → Int32) (a_this_plan_comesAt : Nat) (g_this_plan_comesAt : Nat → Int32) (a_this_plan_comers : Nat) (g_this_plan_comers : Nat → Int32) (a_this_plan_names : Nat) (a_this_plan_code : Nat) (g_this_plan_code : Nat → Int32) (x_this_plan_size : Int32) (a_this_plan_spans : Nat) (g_this_plan_spans : Nat → Int32) (a_this_spare : Nat) (a_this_now : Nat) (x_this_now_day : Int32) (x_this_now_rule : Int32) (x_this_now_green : Int32) (a_this_now_trusts : Nat) (g_this_now_trusts : Nat → Int32) (a_this_history : Nat) (a_this_history_ring : Nat) (rq_this_history_ring : Nat → Nat) (rr_this_history_ring : Nat → Nat) (rD_this_history_ring : Nat → Int32) (rR_this_history_ring : Nat → Int32) (rG_this_history_ring : Nat → Int32) (rF_this_history_ring : Nat → Nat → Int32) (x_this_history_next : Int32) (x_this_history_count : Int32) (a_this_machine : Nat) (a_this_machine_facts : Nat) (g_this_machine_facts : Nat → Int32) (a_this_machine_stack : Nat) (g_this_machine_stack : Nat → Int32) (a_this_reader : Nat) (a_this_street : Nat) (x_this_street_day : Int32) (a_this_street_trusts : Nat) (g_this_street_trusts : Nat → Int32) (x_this_street_rule : Int32) (x_this_street_green : Int32) (x_this_street_absent : Int32) (x_this_street_asksReds : Int32) (a_this_street_cars : Nat) (g_this_street_cars : Nat → Int32) (a_this_street_gaps : Nat) (g_this_street_gaps : Nat → Int32) (a_this_street_known : Nat) (g_this_street_known : Nat → Int32) (a_this_street_left : Nat) (g_this_street_left : Nat → Int32) (a_this_street_leaves : Nat) (g_this_street_leaves : Nat → Int32) (x_this_street_pressed : Int32) (x_this_street_crossed : Int32) (x_this_street_went : Int32) (x_this_street_harmed : Int32) (a_this_choice : Nat) (a_this_choice_table : Nat) (x_this_choice_tableKnown : Int32) (a_this_ahead : Nat) (a_this_ahead_state : Nat) (a_this_ahead_told : Nat) (a_this_ahead_trusts : Nat) (x_this_ahead_known : Int32) (a_this_watch : Nat) (a_this_watch_seenWalker : Nat) (a_this_watch_seenSecond : Nat) (x_this_watch_rows : Int32) (x_this_watch_compared : Int32) (a_this_watch_seconds : Nat) (x_this_watch_found : Int32) (x_this_watch_foundRules : Int32) (x_this_watch_foundGreen : Int32) (x_this_watch_chosen : Int32) (x_this_watch_chosenLeft : Int32) (a_this_octets : Nat) (x_this_octetCount : Int32) (a_this_refusals : Nat) (g_this_refusals : Nat → Int32) (x_this_drawn : Int64) (p0 : Int32) (hx_this_plan_cycle : ib x_this_plan_cycle 0 120) (hx_this_plan_least : ib x_this_plan_least 0 99) (hx_this_plan_kinds : ib x_this_plan_kinds 0 6) (hx_this_plan_walkers : ib x_this_plan_walkers 0 12) (hg_this_plan_kindOf : ia g_this_plan_kindOf 12 0 5) (hg_this_plan_comesAt : ia g_this_plan_comesAt 12 0 199) (hg_this_plan_spans : ia g_this_plan_spans 6 0 1600) (hx_this_history_next : ib x_this_history_next 0 19) (hx_this_history_count : ib x_this_history_count 0 20) (hx_this_street_asksReds : ib x_this_street_asksReds 0 1) (hx_this_choice_tableKnown : ib x_this_choice_tableKnown 0 1) (hx_this_ahead_known : ib x_this_ahead_known 0 30) (hx_this_watch_compared : ib x_this_watch_compared 0 1) : k_Met l yX9_days cX9_days 4 (some .int) { frames := 7, cells := 0, slots := 0, locals := 169 } dC dI cy sq [.ref a_this, .int p0] [(wo_9_rirrrrrrrrrrrirl a_this a_this_tape x_this_tapeSize a_this_plan a_this_spare a_this_now a_this_history a_this_machine a_this_reader a_this_street a_this_choice a_this_ahead a_this_watch a_this_octets x_this_octetCount a_this_refusals x_this_drawn), (wo_4_iiiiiiirrrirrrrrir a_this_plan x_this_plan_cycle x_this_plan_green x_this_plan_rule x_this_plan_least x_this_plan_away x_this_plan_statements x_this_plan_kinds a_this_plan_calm a_this_plan_pace a_this_plan_trusts x_this_plan_walkers a_this_plan_kindOf a_this_plan_comesAt a_this_plan_comers a_this_plan_names a_this_plan_code x_this_plan_size a_this_plan_spans), (wo_6_iiir a_this_now x_this_now_day x_this_now_rule x_this_now_green a_this_now_trusts), (wo_2_rii a_this_history a_this_history_ring x_this_history_next x_this_history_count), (a_this_history_ring, .inl (cy 4, 20, .inr (.inr (.inr (.inr (rg_f rq_this_history_ring)))))), (wo_6_iiir (rq_this_history_ring 0) (rD_this_history_ring 0) (rR_this_history_ring 0) (rG_this_history_ring 0) (rr_this_history_ring 0)), (wi_0_6_0 a_this_now_trusts cy g_this_now_trusts), (wi_0_6_0 (rr_this_history_ring 0) cy (rF_this_history_ring 0)), (wo_6_iiir (rq_this_history_ring 1) (rD_this_history_ring 1) (rR_this_history_ring 1) (rG_this_history_ring 1) (rr_this_history_ring 1)), (wi_0_6_0 (rr_this_history_ring 1) cy (rF_this_history_ring 1)), (wo_6_iiir (rq_this_history_ring 2) (rD_this_history_ring 2) (rR_this_history_ring 2) (rG_this_history_ring 2) (rr_this_history_ring 2)), (wi_0_6_0 (rr_this_history_ring 2) cy (rF_this_history_ring 2)), (wo_6_iiir (rq_this_history_ring 3) (rD_this_history_ring 3) (rR_this_history_ring 3) (rG_this_history_ring 3) (rr_this_history_ring 3)), (wi_0_6_0 (rr_this_history_ring 3) cy (rF_this_history_ring 3)), (wo_6_iiir (rq_this_history_ring 4) (rD_this_history_ring 4) (rR_this_history_ring 4) (rG_this_history_ring 4) (rr_this_history_ring 4)), (wi_0_6_0 (rr_this_history_ring 4) cy (rF_this_history_ring 4)), (wo_6_iiir (rq_this_history_ring 5) (rD_this_history_ring 5) (rR_this_history_ring 5) (rG_this_history_ring 5) (rr_this_history_ring 5)), (wi_0_6_0 (rr_this_history_ring 5) cy (rF_this_history_ring 5)), (wo_6_iiir (rq_this_history_ring 6) (rD_this_history_ring 6) (rR_this_history_ring 6) (rG_this_history_ring 6) (rr_this_history_ring 6)), (wi_0_6_0 (rr_this_history_ring 6) cy (rF_this_history_ring 6)), (wo_6_iiir (rq_this_history_ring 7) (rD_this_history_ring 7) (rR_this_history_ring 7) (rG_this_history_ring 7) (rr_this_history_ring 7)), (wi_0_6_0 (rr_this_history_ring 7) cy (rF_this_history_ring 7)), (wo_6_iiir (rq_this_history_ring 8) (rD_this_history_ring 8) (rR_this_history_ring 8) (rG_this_history_ring 8) (rr_this_history_ring 8)), (wi_0_6_0 (rr_this_history_ring 8) cy (rF_this_history_ring 8)), (wo_6_iiir (rq_this_history_ring 9) (rD_this_history_ring 9) (rR_this_history_ring 9) (rG_this_history_ring 9) (rr_this_history_ring 9)), (wi_0_6_0 (rr_this_history_ring 9) cy (rF_this_history_ring 9)), (wo_6_iiir (rq_this_history_ring 10) (rD_this_history_ring 10) (rR_this_history_ring 10) (rG_this_history_ring 10) (rr_this_history_ring 10)), (wi_0_6_0 (rr_this_history_ring 10) cy (rF_this_history_ring 10)), (wo_6_iiir (rq_this_history_ring 11) (rD_this_history_ring 11) (rR_this_history_ring 11) (rG_this_history_ring 11) (rr_this_history_ring 11)), (wi_0_6_0 (rr_this_history_ring 11) cy (rF_this_history_ring 11)), (wo_6_iiir (rq_this_history_ring 12) (rD_this_history_ring 12) (rR_this_history_ring 12) (rG_this_history_ring 12) (rr_this_history_ring 12)), (wi_0_6_0 (rr_this_history_ring 12) cy (rF_this_history_ring 12)), (wo_6_iiir (rq_this_history_ring 13) (rD_this_history_ring 13) (rR_this_history_ring 13) (rG_this_history_ring 13) (rr_this_history_ring 13)), (wi_0_6_0 (rr_this_history_ring 13) cy (rF_this_history_ring 13)), (wo_6_iiir (rq_this_history_ring 14) (rD_this_history_ring 14) (rR_this_history_ring 14) (rG_this_history_ring 14) (rr_this_history_ring 14)), (wi_0_6_0 (rr_this_history_ring 14) cy (rF_this_history_ring 14)), (wo_6_iiir (rq_this_history_ring 15) (rD_this_history_ring 15) (rR_this_history_ring 15) (rG_this_history_ring 15) (rr_this_history_ring 15)), (wi_0_6_0 (rr_this_history_ring 15) cy (rF_this_history_ring 15)), (wo_6_iiir (rq_this_history_ring 16) (rD_this_history_ring 16) (rR_this_history_ring 16) (rG_this_history_ring 16) (rr_this_history_ring 16)), (wi_0_6_0 (rr_this_history_ring 16) cy (rF_this_history_ring 16)), (wo_6_iiir (rq_this_history_ring 17) (rD_this_history_ring 17) (rR_this_history_ring 17) (rG_this_history_ring 17) (rr_this_history_ring 17)), (wi_0_6_0 (rr_this_history_ring 17) cy (rF_this_history_ring 17)), (wo_6_iiir (rq_this_history_ring 18) (rD_this_history_ring 18) (rR_this_history_ring 18) (rG_this_history_ring 18) (rr_this_history_ring 18)), (wi_0_6_0 (rr_this_history_ring 18) cy (rF_this_history_ring 18)), (wo_6_iiir (rq_this_history_ring 19) (rD_this_history_ring 19) (rR_this_history_ring 19) (rG_this_history_ring 19) (rr_this_history_ring 19)), (wi_0_6_0 (rr_this_history_ring 19) cy (rF_this_history_ring 19)), (wo_1_rri a_this_choice a_this_street a_this_choice_table x_this_choice_tableKnown), (wo_0_rrrri a_this_ahead a_this_street a_this_ahead_state a_this_ahead_told a_this_ahead_trusts x_this_ahead_known), (wo_8_rrriiriiiii a_this_watch a_this_street a_this_watch_seenWalker a_this_watch_seenSecond x_this_watch_rows x_this_watch_compared a_this_watch_seconds x_this_watch_found x_this_watch_foundRules x_this_watch_foundGreen x_this_watch_chosen x_this_watch_chosenLeft), (wi_0_6_0 a_this_refusals cy g_this_refusals), (wo_7_rririiiirrrrriiii a_this_street a_this_machine a_this_plan x_this_street_day a_this_street_trusts x_this_street_rule x_this_street_green x_this_street_absent x_this_street_asksReds a_this_street_cars a_this_street_gaps a_this_street_known a_this_street_left a_this_street_leaves x_this_street_pressed x_this_street_crossed x_this_street_went x_this_street_harmed), (wo_3_rr a_this_machine a_this_machine_facts a_this_machine_stack), (wi_0_13_0 a_this_machine_facts cy g_this_machine_facts), (wi_0_6_0 a_this_plan_spans cy g_this_plan_spans), (wi_0_1600_0 a_this_plan_code cy g_this_plan_code), (wi_0_64_0 a_this_machine_stack cy g_this_machine_stack), (wi_0_320_0 a_this_street_cars cy g_this_street_cars), (wi_0_320_0 a_this_street_gaps cy g_this_street_gaps), (wi_0_6_0 a_this_street_trusts cy g_this_street_trusts), (wi_0_3600_0 a_this_street_known cy g_this_street_known), (wi_0_12_0 a_this_plan_kindOf cy g_this_plan_kindOf), (wi_0_200_0 a_this_plan_comers cy g_this_plan_comers), (wi_0_300_0 a_this_street_left cy g_this_street_left), (wi_0_12_0 a_this_street_leaves cy g_this_street_leaves), (wi_0_6_0 a_this_plan_pace cy g_this_plan_pace), (wi_0_12_0 a_this_plan_comesAt cy g_this_plan_comesAt), (wi_0_6_0 a_this_plan_calm cy g_this_plan_calm)] (k_Qi dC dI (fun (r : Int32) (u : Int32 × Int32 × Int32 × (Nat → Int32) × Int32 × Int32 × Int32 × (Nat → Int32) × Int32 × Int32 × Int32 × Int32 × Int32 × Int32 × Int32 × Int32 × (Nat → Int32) × (Nat → Int32) × (Nat → Int32) × (Nat → Int32) × (Nat → Int32) × (Nat → Int32) × (Nat → Int32) × (Nat → Int32) × (Nat → Int32) × (Nat → Int32) × (Nat → Int32) × (Nat → Nat → Int32)) => match u with | (n0, n1, n2, n3, n4, n5, n6, n7, n8, n9, n10, n11, n12, n13, n14, n15, n16, n17, n18, n19, n20, n21, n22, n23, n24, n25, n26, n27) => ib n1 0 19 ∧ ib n2 0 20 ∧ ib n4 0 1 ∧ ib n5 0 30 ∧ ib n6 0 1 ∧ (F_X9_days (Int32.toInt x_this_plan_cycle) (Int32.toInt x_this_plan_least) (Int32.toInt x_this_plan_kinds) (lf_A g_this_plan_calm) (lf_A g_this_plan_pace) (Int32.toInt x_this_plan_walkers) (lf_A g_this_plan_kindOf) (lf_A g_this_plan_comesAt) (lf_A g_this_plan_comers) (lf_A g_this_plan_code) (lf_A g_this_plan_spans) (Int32.toInt x_this_now_day) (Int32.toInt x_this_now_rule) (Int32.toInt x_this_now_green) (lf_A g_this_now_trusts) (lf_A rD_this_history_ring) (lf_A rR_this_history_ring) (lf_A rG_this_history_ring) (lf_R rF_this_history_ring) (Int32.toInt x_this_history_next) (Int32.toInt x_this_history_count) (lf_A g_this_machine_facts) (lf_A g_this_machine_stack) (Int32.toInt x_this_street_day) (lf_A g_this_street_trusts) (Int32.toInt x_this_street_rule) (Int32.toInt x_this_street_green) (Int32.toInt x_this_street_absent) (Int32.toInt x_this_street_asksReds) (lf_A g_this_street_cars) (lf_A g_this_street_gaps) (lf_A g_this_street_known) (lf_A g_this_street_left) (lf_A g_this_street_leaves) (Int32.toInt x_this_street_pressed) (Int32.toInt x_this_street_crossed) (Int32.toInt x_this_street_went) (Int32.toInt x_this_street_harmed) (Int32.toInt x_this_choice_tableKnown) (Int32.toInt x_this_ahead_known) (Int32.toInt x_this_watch_compared) (lf_A g_this_refusals) (Int32.toInt p0) = ((Int32.toInt r), (Int32.toInt n0), (Int32.toInt n1), (Int32.toInt n2), (lf_A n3), (Int32.toInt n4), (Int32.toInt n5), (Int32.toInt n6), (lf_A n7), (Int32.toInt n8), (Int32.toInt n9), (Int32.toInt n10), (Int32.toInt n11), (Int32.toInt n12), (Int32.toInt n13), (Int32.toInt n14), (Int32.toInt n15), (lf_A n16), (lf_A n17), (lf_A n18), (lf_A n19), (lf_A n20), (lf_A n21), (lf_A n22), (lf_A n23), (lf_A n24), (lf_A n25), (lf_A n26), (lf_R n27)))) (fun u : Int32 × Int32 × Int32 × (Nat → Int32) × Int32 × Int32 × Int32 × (Nat → Int32) × Int32 × Int32 × Int32 × Int32 × Int32 × Int32 × Int32 × Int32 × (Nat → Int32) × (Nat → Int32) × (Nat → Int32) × (Nat → Int32) × (Nat → Int32) × (Nat → Int32) × (Nat → Int32) × (Nat → Int32) × (Nat → Int32) × (Nat → Int32) × (Nat → Int32) × (Nat → Nat → Int32) => match u with | (n0, n1, n2, n3, n4, n5, n6, n7, n8, n9, n10, n11, n12, n13, n14, n15, n16, n17, n18, n19, n20, n21, n22, n23, n24, n25, n26, n27) => [(wo_9_rirrrrrrrrrrrirl a_this a_this_tape x_this_tapeSize a_this_plan a_this_spare a_this_now a_this_history a_this_machine a_this_reader a_this_street a_this_choice a_this_ahead a_this_watch a_this_octets x_this_octetCount a_this_refusals x_this_drawn), (wo_4_iiiiiiirrrirrrrrir a_this_plan x_this_plan_cycle x_this_plan_green x_this_plan_rule x_this_plan_least x_this_plan_away x_this_plan_statements x_this_plan_kinds a_this_plan_calm a_this_plan_pace a_this_plan_trusts x_this_plan_walkers a_this_plan_kindOf a_this_plan_comesAt a_this_plan_comers a_this_plan_names a_this_plan_code x_this_plan_size a_this_plan_spans), (wo_6_iiir a_this_now n0 x_this_now_rule x_this_now_green a_this_now_trusts), (wo_2_rii a_this_history a_this_history_ring n1 n2), (a_this_history_ring, .inl (cy 4, 20, .inr (.inr (.inr (.inr (rg_f rq_this_history_ring)))))), (wo_6_iiir (rq_this_history_ring 0) (n24 0) (n25 0) (n26 0) (rr_this_history_ring 0)), (wi_0_6_0 a_this_now_trusts cy n3), (wi_0_6_0 (rr_this_history_ring 0) cy (n27 0)), (wo_6_iiir (rq_this_history_ring 1) (n24 1) (n25 1) (n26 1) (rr_this_history_ring 1)), (wi_0_6_0 (rr_this_history_ring 1) cy (n27 1)), (wo_6_iiir (rq_this_history_ring 2) (n24 2) (n25 2) (n26 2) (rr_this_history_ring 2)), (wi_0_6_0 (rr_this_history_ring 2) cy (n27 2)), (wo_6_iiir (rq_this_history_ring 3) (n24 3) (n25 3) (n26 3) (rr_this_history_ring 3)), (wi_0_6_0 (rr_this_history_ring 3) cy (n27 3)), (wo_6_iiir (rq_this_history_ring 4) (n24 4) (n25 4) (n26 4) (rr_this_history_ring 4)), (wi_0_6_0 (rr_this_history_ring 4) cy (n27 4)), (wo_6_iiir (rq_this_history_ring 5) (n24 5) (n25 5) (n26 5) (rr_this_history_ring 5)), (wi_0_6_0 (rr_this_history_ring 5) cy (n27 5)), (wo_6_iiir (rq_this_history_ring 6) (n24 6) (n25 6) (n26 6) (rr_this_history_ring 6)), (wi_0_6_0 (rr_this_history_ring 6) cy (n27 6)), (wo_6_iiir (rq_this_history_ring 7) (n24 7) (n25 7) (n26 7) (rr_this_history_ring 7)), (wi_0_6_0 (rr_this_history_ring 7) cy (n27 7)), (wo_6_iiir (rq_this_history_ring 8) (n24 8) (n25 8) (n26 8) (rr_this_history_ring 8)), (wi_0_6_0 (rr_this_history_ring 8) cy (n27 8)), (wo_6_iiir (rq_this_history_ring 9) (n24 9) (n25 9) (n26 9) (rr_this_history_ring 9)), (wi_0_6_0 (rr_this_history_ring 9) cy (n27 9)), (wo_6_iiir (rq_this_history_ring 10) (n24 10) (n25 10) (n26 10) (rr_this_history_ring 10)), (wi_0_6_0 (rr_this_history_ring 10) cy (n27 10)), (wo_6_iiir (rq_this_history_ring 11) (n24 11) (n25 11) (n26 11) (rr_this_history_ring 11)), (wi_0_6_0 (rr_this_history_ring 11) cy (n27 11)), (wo_6_iiir (rq_this_history_ring 12) (n24 12) (n25 12) (n26 12) (rr_this_history_ring 12)), (wi_0_6_0 (rr_this_history_ring 12) cy (n27 12)), (wo_6_iiir (rq_this_history_ring 13) (n24 13) (n25 13) (n26 13) (rr_this_history_ring 13)), (wi_0_6_0 (rr_this_history_ring 13) cy (n27 13)), (wo_6_iiir (rq_this_history_ring 14) (n24 14) (n25 14) (n26 14) (rr_this_history_ring 14)), (wi_0_6_0 (rr_this_history_ring 14) cy (n27 14)), (wo_6_iiir (rq_this_history_ring 15) (n24 15) (n25 15) (n26 15) (rr_this_history_ring 15)), (wi_0_6_0 (rr_this_history_ring 15) cy (n27 15)), (wo_6_iiir (rq_this_history_ring 16) (n24 16) (n25 16) (n26 16) (rr_this_history_ring 16)), (wi_0_6_0 (rr_this_history_ring 16) cy (n27 16)), (wo_6_iiir (rq_this_history_ring 17) (n24 17) (n25 17) (n26 17) (rr_this_history_ring 17)), (wi_0_6_0 (rr_this_history_ring 17) cy (n27 17)), (wo_6_iiir (rq_this_history_ring 18) (n24 18) (n25 18) (n26 18) (rr_this_history_ring 18)), (wi_0_6_0 (rr_this_history_ring 18) cy (n27 18)), (wo_6_iiir (rq_this_history_ring 19) (n24 19) (n25 19) (n26 19) (rr_this_history_ring 19)), (wi_0_6_0 (rr_this_history_ring 19) cy (n27 19)), (wo_1_rri a_this_choice a_this_street a_this_choice_table n4), (wo_0_rrrri a_this_ahead a_this_street a_this_ahead_state a_this_ahead_told a_this_ahead_trusts n5), (wo_8_rrriiriiiii a_this_watch a_this_street a_this_watch_seenWalker a_this_watch_seenSecond x_this_watch_rows n6 a_this_watch_seconds x_this_watch_found x_this_watch_foundRules x_this_watch_foundGreen x_this_watch_chosen x_this_watch_chosenLeft), (wi_0_6_0 a_this_refusals cy n7), (wo_7_rririiiirrrrriiii a_this_street a_this_machine a_this_plan n8 a_this_street_trusts n9 n10 n11 x_this_street_asksReds a_this_street_cars a_this_street_gaps a_this_street_known a_this_street_left a_this_street_leaves n12 n13 n14 n15), (wo_3_rr a_this_machine a_this_machine_facts a_this_machine_stack), (wi_0_13_0 a_this_machine_facts cy n16), (wi_0_6_0 a_this_plan_spans cy g_this_plan_spans), (wi_0_1600_0 a_this_plan_code cy g_this_plan_code), (wi_0_64_0 a_this_machine_stack cy n17), (wi_0_320_0 a_this_street_cars cy n18), (wi_0_320_0 a_this_street_gaps cy n19), (wi_0_6_0 a_this_street_trusts cy n20), (wi_0_3600_0 a_this_street_known cy n21), (wi_0_12_0 a_this_plan_kindOf cy g_this_plan_kindOf), (wi_0_200_0 a_this_plan_comers cy g_this_plan_comers), (wi_0_300_0 a_this_street_left cy n22), (wi_0_12_0 a_this_street_leaves cy n23), (wi_0_6_0 a_this_plan_pace cy g_this_plan_pace), (wi_0_12_0 a_this_plan_comesAt cy g_this_plan_comesAt), (wi_0_6_0 a_this_plan_calm cy g_this_plan_calm)])) := by
  refine k_ofW2 (by decide +kernel) (Nat.le_of_ble_eq_true rfl) ?_
  intro p e s m below meth c A ls H locs args Q hQ C0 hZ hr hlk hin hP hD hA hS hl
  have C0 : k_cx p s m args c cX9_days 4 RX9 dC dI cy sq := C0
  have hx := C0.1
  have hb := C0.2.1
  have hl : lv_has ls 4 [(0, .ref a_this), (1, .int p0)] := hl
  obtain ⟨O, hO⟩ : ∃ o, o = F_X9_days (Int32.toInt x_this_plan_cycle) (Int32.toInt x_this_plan_least) (Int32.toInt x_this_plan_kinds) (lf_A g_this_plan_calm) (lf_A g_this_plan_pace) (Int32.toInt x_this_plan_walkers) (lf_A g_this_plan_kindOf) (lf_A g_this_plan_comesAt) (lf_A g_this_plan_comers) (lf_A g_this_plan_code) (lf_A g_this_plan_spans) (Int32.toInt x_this_now_day) (Int32.toInt x_this_now_rule) (Int32.toInt x_this_now_green) (lf_A g_this_now_trusts) (lf_A rD_this_history_ring) (lf_A rR_this_history_ring) (lf_A rG_this_history_ring) (lf_R rF_this_history_ring) (Int32.toInt x_this_history_next) (Int32.toInt x_this_history_count) (lf_A g_this_machine_facts) (lf_A g_this_machine_stack) (Int32.toInt x_this_street_day) (lf_A g_this_street_trusts) (Int32.toInt x_this_street_rule) (Int32.toInt x_this_street_green) (Int32.toInt x_this_street_absent) (Int32.toInt x_this_street_asksReds) (lf_A g_this_street_cars) (lf_A g_this_street_gaps) (lf_A g_this_street_known) (lf_A g_this_street_left) (lf_A g_this_street_leaves) (Int32.toInt x_this_street_pressed) (Int32.toInt x_this_street_crossed) (Int32.toInt x_this_street_went) (Int32.toInt x_this_street_harmed) (Int32.toInt x_this_choice_tableKnown) (Int32.toInt x_this_ahead_known) (Int32.toInt x_this_watch_compared) (lf_A g_this_refusals) (Int32.toInt p0) := ⟨_, rfl⟩
  have hq := hO
  unfold F_X9_days at hq
  have jn22 : ∀ (n : Nat) (J22_c3_1 : Int32) (J22_c3_2 : Int32) (J22_g_this_history_ring_rD : Nat → Int32) (J22_g_this_history_ring_rR : Nat → Int32) (J22_g_this_history_ring_rG : Nat → Int32) (J22_g_this_history_ring_rF : Nat → Nat → Int32) (J22_l2 : Int32) (J22_l3 : Int32) (J22_c2_0 : Int32) (J22_c50_2 : Int32) (J22_c50_4 : Int32) (J22_c50_5 : Int32) (J22_c50_6 : Int32) (J22_c50_13 : Int32) (J22_c50_14 : Int32) (J22_c50_15 : Int32) (J22_c50_16 : Int32) (J22_a6 : Nat → Int32) (J22_a52 : Nat → Int32) (J22_a55 : Nat → Int32) (J22_a56 : Nat → Int32) (J22_a57 : Nat → Int32) (J22_a58 : Nat → Int32) (J22_a59 : Nat → Int32) (J22_a62 : Nat → Int32) (J22_a63 : Nat → Int32) (H : Heap) (locs : List Loc) (ls : Array Slot), ib p0 1 30 → ib x_this_plan_cycle 1 120 → ib J22_c3_1 0 19 → ib J22_c3_2 1 20 → ib J22_l3 0 30 → (O = F_X9_days_22 (Int32.toInt x_this_plan_cycle) (Int32.toInt x_this_plan_least) (Int32.toInt x_this_plan_kinds) (lf_A g_this_plan_calm) (lf_A g_this_plan_pace) (Int32.toInt x_this_plan_walkers) (lf_A g_this_plan_kindOf) (lf_A g_this_plan_comesAt) (lf_A g_this_plan_comers) (lf_A g_this_plan_code) (lf_A g_this_plan_spans) (Int32.toInt x_this_now_rule) (Int32.toInt x_this_now_green) (Int32.toInt x_this_street_asksReds) (lf_A g_this_refusals) (Int32.toInt p0) n (Int32.toInt J22_c3_1) (Int32.toInt J22_c3_2) (lf_A J22_g_this_history_ring_rD) (lf_A J22_g_this_history_ring_rR) (lf_A J22_g_this_history_ring_rG) (lf_R J22_g_this_history_ring_rF) (Int32.toInt J22_l2) (Int32.toInt J22_l3) (Int32.toInt J22_c2_0) (Int32.toInt J22_c50_2) (Int32.toInt J22_c50_4) (Int32.toInt J22_c50_5) (Int32.toInt J22_c50_6) (Int32.toInt J22_c50_13) (Int32.toInt J22_c50_14) (Int32.toInt J22_c50_15) (Int32.toInt J22_c50_16) (lf_A J22_a6) (lf_A J22_a52) (lf_A J22_a55) (lf_A J22_a56) (lf_A J22_a57) (lf_A J22_a58) (lf_A J22_a59) (lf_A J22_a62) (lf_A J22_a63)) → 31 ≤ J22_l3.toInt + (n : Int) → va_P (dC, dI) vwCl [(wo_9_rirrrrrrrrrrrirl a_this a_this_tape x_this_tapeSize a_this_plan a_this_spare a_this_now a_this_history a_this_machine a_this_reader a_this_street a_this_choice a_this_ahead a_this_watch a_this_octets x_this_octetCount a_this_refusals x_this_drawn), (wo_4_iiiiiiirrrirrrrrir a_this_plan x_this_plan_cycle x_this_plan_green x_this_plan_rule x_this_plan_least x_this_plan_away x_this_plan_statements x_this_plan_kinds a_this_plan_calm a_this_plan_pace a_this_plan_trusts x_this_plan_walkers a_this_plan_kindOf a_this_plan_comesAt a_this_plan_comers a_this_plan_names a_this_plan_code x_this_plan_size a_this_plan_spans), (wo_6_iiir a_this_now J22_c2_0 x_this_now_rule x_this_now_green a_this_now_trusts), (wo_2_rii a_this_history a_this_history_ring J22_c3_1 J22_c3_2), (a_this_history_ring, .inl (cy 4, 20, .inr (.inr (.inr (.inr (rg_f rq_this_history_ring)))))), (wo_6_iiir (rq_this_history_ring 0) (J22_g_this_history_ring_rD 0) (J22_g_this_history_ring_rR 0) (J22_g_this_history_ring_rG 0) (rr_this_history_ring 0)), (wi_0_6_0 a_this_now_trusts cy J22_a6), (wi_0_6_0 (rr_this_history_ring 0) cy (J22_g_this_history_ring_rF 0)), (wo_6_iiir (rq_this_history_ring 1) (J22_g_this_history_ring_rD 1) (J22_g_this_history_ring_rR 1) (J22_g_this_history_ring_rG 1) (rr_this_history_ring 1)), (wi_0_6_0 (rr_this_history_ring 1) cy (J22_g_this_history_ring_rF 1)), (wo_6_iiir (rq_this_history_ring 2) (J22_g_this_history_ring_rD 2) (J22_g_this_history_ring_rR 2) (J22_g_this_history_ring_rG 2) (rr_this_history_ring 2)), (wi_0_6_0 (rr_this_history_ring 2) cy (J22_g_this_history_ring_rF 2)), (wo_6_iiir (rq_this_history_ring 3) (J22_g_this_history_ring_rD 3) (J22_g_this_history_ring_rR 3) (J22_g_this_history_ring_rG 3) (rr_this_history_ring 3)), (wi_0_6_0 (rr_this_history_ring 3) cy (J22_g_this_history_ring_rF 3)), (wo_6_iiir (rq_this_history_ring 4) (J22_g_this_history_ring_rD 4) (J22_g_this_history_ring_rR 4) (J22_g_this_history_ring_rG 4) (rr_this_history_ring 4)), (wi_0_6_0 (rr_this_history_ring 4) cy (J22_g_this_history_ring_rF 4)), (wo_6_iiir (rq_this_history_ring 5) (J22_g_this_history_ring_rD 5) (J22_g_this_history_ring_rR 5) (J22_g_this_history_ring_rG 5) (rr_this_history_ring 5)), (wi_0_6_0 (rr_this_history_ring 5) cy (J22_g_this_history_ring_rF 5)), (wo_6_iiir (rq_this_history_ring 6) (J22_g_this_history_ring_rD 6) (J22_g_this_history_ring_rR 6) (J22_g_this_history_ring_rG 6) (rr_this_history_ring 6)), (wi_0_6_0 (rr_this_history_ring 6) cy (J22_g_this_history_ring_rF 6)), (wo_6_iiir (rq_this_history_ring 7) (J22_g_this_history_ring_rD 7) (J22_g_this_history_ring_rR 7) (J22_g_this_history_ring_rG 7) (rr_this_history_ring 7)), (wi_0_6_0 (rr_this_history_ring 7) cy (J22_g_this_history_ring_rF 7)), (wo_6_iiir (rq_this_history_ring 8) (J22_g_this_history_ring_rD 8) (J22_g_this_history_ring_rR 8) (J22_g_this_history_ring_rG 8) (rr_this_history_ring 8)), (wi_0_6_0 (rr_this_history_ring 8) cy (J22_g_this_history_ring_rF 8)), (wo_6_iiir (rq_this_history_ring 9) (J22_g_this_history_ring_rD 9) (J22_g_this_history_ring_rR 9) (J22_g_this_history_ring_rG 9) (rr_this_history_ring 9)), (wi_0_6_0 (rr_this_history_ring 9) cy (J22_g_this_history_ring_rF 9)), (wo_6_iiir (rq_this_history_ring 10) (J22_g_this_history_ring_rD 10) (J22_g_this_history_ring_rR 10) (J22_g_this_history_ring_rG 10) (rr_this_history_ring 10)), (wi_0_6_0 (rr_this_history_ring 10) cy (J22_g_this_history_ring_rF 10)), (wo_6_iiir (rq_this_history_ring 11) (J22_g_this_history_ring_rD 11) (J22_g_this_history_ring_rR 11) (J22_g_this_history_ring_rG 11) (rr_this_history_ring 11)), (wi_0_6_0 (rr_this_history_ring 11) cy (J22_g_this_history_ring_rF 11)), (wo_6_iiir (rq_this_history_ring 12) (J22_g_this_history_ring_rD 12) (J22_g_this_history_ring_rR 12) (J22_g_this_history_ring_rG 12) (rr_this_history_ring 12)), (wi_0_6_0 (rr_this_history_ring 12) cy (J22_g_this_history_ring_rF 12)), (wo_6_iiir (rq_this_history_ring 13) (J22_g_this_history_ring_rD 13) (J22_g_this_history_ring_rR 13) (J22_g_this_history_ring_rG 13) (rr_this_history_ring 13)), (wi_0_6_0 (rr_this_history_ring 13) cy (J22_g_this_history_ring_rF 13)), (wo_6_iiir (rq_this_history_ring 14) (J22_g_this_history_ring_rD 14) (J22_g_this_history_ring_rR 14) (J22_g_this_history_ring_rG 14) (rr_this_history_ring 14)), (wi_0_6_0 (rr_this_history_ring 14) cy (J22_g_this_history_ring_rF 14)), (wo_6_iiir (rq_this_history_ring 15) (J22_g_this_history_ring_rD 15) (J22_g_this_history_ring_rR 15) (J22_g_this_history_ring_rG 15) (rr_this_history_ring 15)), (wi_0_6_0 (rr_this_history_ring 15) cy (J22_g_this_history_ring_rF 15)), (wo_6_iiir (rq_this_history_ring 16) (J22_g_this_history_ring_rD 16) (J22_g_this_history_ring_rR 16) (J22_g_this_history_ring_rG 16) (rr_this_history_ring 16)), (wi_0_6_0 (rr_this_history_ring 16) cy (J22_g_this_history_ring_rF 16)), (wo_6_iiir (rq_this_history_ring 17) (J22_g_this_history_ring_rD 17) (J22_g_this_history_ring_rR 17) (J22_g_this_history_ring_rG 17) (rr_this_history_ring 17)), (wi_0_6_0 (rr_this_history_ring 17) cy (J22_g_this_history_ring_rF 17)), (wo_6_iiir (rq_this_history_ring 18) (J22_g_this_history_ring_rD 18) (J22_g_this_history_ring_rR 18) (J22_g_this_history_ring_rG 18) (rr_this_history_ring 18)), (wi_0_6_0 (rr_this_history_ring 18) cy (J22_g_this_history_ring_rF 18)), (wo_6_iiir (rq_this_history_ring 19) (J22_g_this_history_ring_rD 19) (J22_g_this_history_ring_rR 19) (J22_g_this_history_ring_rG 19) (rr_this_history_ring 19)), (wi_0_6_0 (rr_this_history_ring 19) cy (J22_g_this_history_ring_rF 19)), (wo_1_rri a_this_choice a_this_street a_this_choice_table 0), (wo_0_rrrri a_this_ahead a_this_street a_this_ahead_state a_this_ahead_told a_this_ahead_trusts 0), (wo_8_rrriiriiiii a_this_watch a_this_street a_this_watch_seenWalker a_this_watch_seenSecond x_this_watch_rows 0 a_this_watch_seconds x_this_watch_found x_this_watch_foundRules x_this_watch_foundGreen x_this_watch_chosen x_this_watch_chosenLeft), (wi_0_6_0 a_this_refusals cy g_this_refusals), (wo_7_rririiiirrrrriiii a_this_street a_this_machine a_this_plan J22_c50_2 a_this_street_trusts J22_c50_4 J22_c50_5 J22_c50_6 x_this_street_asksReds a_this_street_cars a_this_street_gaps a_this_street_known a_this_street_left a_this_street_leaves J22_c50_13 J22_c50_14 J22_c50_15 J22_c50_16), (wo_3_rr a_this_machine a_this_machine_facts a_this_machine_stack), (wi_0_13_0 a_this_machine_facts cy J22_a52), (wi_0_6_0 a_this_plan_spans cy g_this_plan_spans), (wi_0_1600_0 a_this_plan_code cy g_this_plan_code), (wi_0_64_0 a_this_machine_stack cy J22_a55), (wi_0_320_0 a_this_street_cars cy J22_a56), (wi_0_320_0 a_this_street_gaps cy J22_a57), (wi_0_6_0 a_this_street_trusts cy J22_a58), (wi_0_3600_0 a_this_street_known cy J22_a59), (wi_0_12_0 a_this_plan_kindOf cy g_this_plan_kindOf), (wi_0_200_0 a_this_plan_comers cy g_this_plan_comers), (wi_0_300_0 a_this_street_left cy J22_a62), (wi_0_12_0 a_this_street_leaves cy J22_a63), (wi_0_6_0 a_this_plan_pace cy g_this_plan_pace), (wi_0_12_0 a_this_plan_comesAt cy g_this_plan_comesAt), (wi_0_6_0 a_this_plan_calm cy g_this_plan_calm)] H → va_D A [(wo_9_rirrrrrrrrrrrirl a_this a_this_tape x_this_tapeSize a_this_plan a_this_spare a_this_now a_this_history a_this_machine a_this_reader a_this_street a_this_choice a_this_ahead a_this_watch a_this_octets x_this_octetCount a_this_refusals x_this_drawn), (wo_4_iiiiiiirrrirrrrrir a_this_plan x_this_plan_cycle x_this_plan_green x_this_plan_rule x_this_plan_least x_this_plan_away x_this_plan_statements x_this_plan_kinds a_this_plan_calm a_this_plan_pace a_this_plan_trusts x_this_plan_walkers a_this_plan_kindOf a_this_plan_comesAt a_this_plan_comers a_this_plan_names a_this_plan_code x_this_plan_size a_this_plan_spans), (wo_6_iiir a_this_now J22_c2_0 x_this_now_rule x_this_now_green a_this_now_trusts), (wo_2_rii a_this_history a_this_history_ring J22_c3_1 J22_c3_2), (a_this_history_ring, .inl (cy 4, 20, .inr (.inr (.inr (.inr (rg_f rq_this_history_ring)))))), (wo_6_iiir (rq_this_history_ring 0) (J22_g_this_history_ring_rD 0) (J22_g_this_history_ring_rR 0) (J22_g_this_history_ring_rG 0) (rr_this_history_ring 0)), (wi_0_6_0 a_this_now_trusts cy J22_a6), (wi_0_6_0 (rr_this_history_ring 0) cy (J22_g_this_history_ring_rF 0)), (wo_6_iiir (rq_this_history_ring 1) (J22_g_this_history_ring_rD 1) (J22_g_this_history_ring_rR 1) (J22_g_this_history_ring_rG 1) (rr_this_history_ring 1)), (wi_0_6_0 (rr_this_history_ring 1) cy (J22_g_this_history_ring_rF 1)), (wo_6_iiir (rq_this_history_ring 2) (J22_g_this_history_ring_rD 2) (J22_g_this_history_ring_rR 2) (J22_g_this_history_ring_rG 2) (rr_this_history_ring 2)), (wi_0_6_0 (rr_this_history_ring 2) cy (J22_g_this_history_ring_rF 2)), (wo_6_iiir (rq_this_history_ring 3) (J22_g_this_history_ring_rD 3) (J22_g_this_history_ring_rR 3) (J22_g_this_history_ring_rG 3) (rr_this_history_ring 3)), (wi_0_6_0 (rr_this_history_ring 3) cy (J22_g_this_history_ring_rF 3)), (wo_6_iiir (rq_this_history_ring 4) (J22_g_this_history_ring_rD 4) (J22_g_this_history_ring_rR 4) (J22_g_this_history_ring_rG 4) (rr_this_history_ring 4)), (wi_0_6_0 (rr_this_history_ring 4) cy (J22_g_this_history_ring_rF 4)), (wo_6_iiir (rq_this_history_ring 5) (J22_g_this_history_ring_rD 5) (J22_g_this_history_ring_rR 5) (J22_g_this_history_ring_rG 5) (rr_this_history_ring 5)), (wi_0_6_0 (rr_this_history_ring 5) cy (J22_g_this_history_ring_rF 5)), (wo_6_iiir (rq_this_history_ring 6) (J22_g_this_history_ring_rD 6) (J22_g_this_history_ring_rR 6) (J22_g_this_history_ring_rG 6) (rr_this_history_ring 6)), (wi_0_6_0 (rr_this_history_ring 6) cy (J22_g_this_history_ring_rF 6)), (wo_6_iiir (rq_this_history_ring 7) (J22_g_this_history_ring_rD 7) (J22_g_this_history_ring_rR 7) (J22_g_this_history_ring_rG 7) (rr_this_history_ring 7)), (wi_0_6_0 (rr_this_history_ring 7) cy (J22_g_this_history_ring_rF 7)), (wo_6_iiir (rq_this_history_ring 8) (J22_g_this_history_ring_rD 8) (J22_g_this_history_ring_rR 8) (J22_g_this_history_ring_rG 8) (rr_this_history_ring 8)), (wi_0_6_0 (rr_this_history_ring 8) cy (J22_g_this_history_ring_rF 8)), (wo_6_iiir (rq_this_history_ring 9) (J22_g_this_history_ring_rD 9) (J22_g_this_history_ring_rR 9) (J22_g_this_history_ring_rG 9) (rr_this_history_ring 9)), (wi_0_6_0 (rr_this_history_ring 9) cy (J22_g_this_history_ring_rF 9)), (wo_6_iiir (rq_this_history_ring 10) (J22_g_this_history_ring_rD 10) (J22_g_this_history_ring_rR 10) (J22_g_this_history_ring_rG 10) (rr_this_history_ring 10)), (wi_0_6_0 (rr_this_history_ring 10) cy (J22_g_this_history_ring_rF 10)), (wo_6_iiir (rq_this_history_ring 11) (J22_g_this_history_ring_rD 11) (J22_g_this_history_ring_rR 11) (J22_g_this_history_ring_rG 11) (rr_this_history_ring 11)), (wi_0_6_0 (rr_this_history_ring 11) cy (J22_g_this_history_ring_rF 11)), (wo_6_iiir (rq_this_history_ring 12) (J22_g_this_history_ring_rD 12) (J22_g_this_history_ring_rR 12) (J22_g_this_history_ring_rG 12) (rr_this_history_ring 12)), (wi_0_6_0 (rr_this_history_ring 12) cy (J22_g_this_history_ring_rF 12)), (wo_6_iiir (rq_this_history_ring 13) (J22_g_this_history_ring_rD 13) (J22_g_this_history_ring_rR 13) (J22_g_this_history_ring_rG 13) (rr_this_history_ring 13)), (wi_0_6_0 (rr_this_history_ring 13) cy (J22_g_this_history_ring_rF 13)), (wo_6_iiir (rq_this_history_ring 14) (J22_g_this_history_ring_rD 14) (J22_g_this_history_ring_rR 14) (J22_g_this_history_ring_rG 14) (rr_this_history_ring 14)), (wi_0_6_0 (rr_this_history_ring 14) cy (J22_g_this_history_ring_rF 14)), (wo_6_iiir (rq_this_history_ring 15) (J22_g_this_history_ring_rD 15) (J22_g_this_history_ring_rR 15) (J22_g_this_history_ring_rG 15) (rr_this_history_ring 15)), (wi_0_6_0 (rr_this_history_ring 15) cy (J22_g_this_history_ring_rF 15)), (wo_6_iiir (rq_this_history_ring 16) (J22_g_this_history_ring_rD 16) (J22_g_this_history_ring_rR 16) (J22_g_this_history_ring_rG 16) (rr_this_history_ring 16)), (wi_0_6_0 (rr_this_history_ring 16) cy (J22_g_this_history_ring_rF 16)), (wo_6_iiir (rq_this_history_ring 17) (J22_g_this_history_ring_rD 17) (J22_g_this_history_ring_rR 17) (J22_g_this_history_ring_rG 17) (rr_this_history_ring 17)), (wi_0_6_0 (rr_this_history_ring 17) cy (J22_g_this_history_ring_rF 17)), (wo_6_iiir (rq_this_history_ring 18) (J22_g_this_history_ring_rD 18) (J22_g_this_history_ring_rR 18) (J22_g_this_history_ring_rG 18) (rr_this_history_ring 18)), (wi_0_6_0 (rr_this_history_ring 18) cy (J22_g_this_history_ring_rF 18)), (wo_6_iiir (rq_this_history_ring 19) (J22_g_this_history_ring_rD 19) (J22_g_this_history_ring_rR 19) (J22_g_this_history_ring_rG 19) (rr_this_history_ring 19)), (wi_0_6_0 (rr_this_history_ring 19) cy (J22_g_this_history_ring_rF 19)), (wo_1_rri a_this_choice a_this_street a_this_choice_table 0), (wo_0_rrrri a_this_ahead a_this_street a_this_ahead_state a_this_ahead_told a_this_ahead_trusts 0), (wo_8_rrriiriiiii a_this_watch a_this_street a_this_watch_seenWalker a_this_watch_seenSecond x_this_watch_rows 0 a_this_watch_seconds x_this_watch_found x_this_watch_foundRules x_this_watch_foundGreen x_this_watch_chosen x_this_watch_chosenLeft), (wi_0_6_0 a_this_refusals cy g_this_refusals), (wo_7_rririiiirrrrriiii a_this_street a_this_machine a_this_plan J22_c50_2 a_this_street_trusts J22_c50_4 J22_c50_5 J22_c50_6 x_this_street_asksReds a_this_street_cars a_this_street_gaps a_this_street_known a_this_street_left a_this_street_leaves J22_c50_13 J22_c50_14 J22_c50_15 J22_c50_16), (wo_3_rr a_this_machine a_this_machine_facts a_this_machine_stack), (wi_0_13_0 a_this_machine_facts cy J22_a52), (wi_0_6_0 a_this_plan_spans cy g_this_plan_spans), (wi_0_1600_0 a_this_plan_code cy g_this_plan_code), (wi_0_64_0 a_this_machine_stack cy J22_a55), (wi_0_320_0 a_this_street_cars cy J22_a56), (wi_0_320_0 a_this_street_gaps cy J22_a57), (wi_0_6_0 a_this_street_trusts cy J22_a58), (wi_0_3600_0 a_this_street_known cy J22_a59), (wi_0_12_0 a_this_plan_kindOf cy g_this_plan_kindOf), (wi_0_200_0 a_this_plan_comers cy g_this_plan_comers), (wi_0_300_0 a_this_street_left cy J22_a62), (wi_0_12_0 a_this_street_leaves cy J22_a63), (wi_0_6_0 a_this_plan_pace cy g_this_plan_pace), (wi_0_12_0 a_this_plan_comesAt cy g_this_plan_comesAt), (wi_0_6_0 a_this_plan_calm cy g_this_plan_calm)] → va_S A s.heap H locs → lv_has ls 4 [(0, .ref a_this), (1, .int p0), (2, .int J22_l2), (3, .int J22_l3)] → W p l e { frames := 7, cells := 0, slots := 0, locals := 169 } s m args below meth c H locs 0 0 Q (F0 m 22 ls []) := by
    as_aux_lemma =>
      intro n
      induction n with
      | zero =>
        intro J22_c3_1 J22_c3_2 J22_g_this_history_ring_rD J22_g_this_history_ring_rR J22_g_this_history_ring_rG J22_g_this_history_ring_rF J22_l2 J22_l3 J22_c2_0 J22_c50_2 J22_c50_4 J22_c50_5 J22_c50_6 J22_c50_13 J22_c50_14 J22_c50_15 J22_c50_16 J22_a6 J22_a52 J22_a55 J22_a56 J22_a57 J22_a58 J22_a59 J22_a62 J22_a63 H locs ls hK22_p0 hK22_x_this_plan_cycle hJ22_c3_1 hJ22_c3_2 hJ22_l3 hq hm
        exact absurd hm (by have := hJ22_l3; unfold ib at this; omega)
      | succ n ih =>
        intro J22_c3_1 J22_c3_2 J22_g_this_history_ring_rD J22_g_this_history_ring_rR J22_g_this_history_ring_rG J22_g_this_history_ring_rF J22_l2 J22_l3 J22_c2_0 J22_c50_2 J22_c50_4 J22_c50_5 J22_c50_6 J22_c50_13 J22_c50_14 J22_c50_15 J22_c50_16 J22_a6 J22_a52 J22_a55 J22_a56 J22_a57 J22_a58 J22_a59 J22_a62 J22_a63 H locs ls hK22_p0 hK22_x_this_plan_cycle hJ22_c3_1 hJ22_c3_2 hJ22_l3 hq hm22 hP hD hS hl
        have ih22 := ih
        obtain ⟨K22, hK22⟩ : ∃ K, K = F_X9_days_22 (Int32.toInt x_this_plan_cycle) (Int32.toInt x_this_plan_least) (Int32.toInt x_this_plan_kinds) (lf_A g_this_plan_calm) (lf_A g_this_plan_pace) (Int32.toInt x_this_plan_walkers) (lf_A g_this_plan_kindOf) (lf_A g_this_plan_comesAt) (lf_A g_this_plan_comers) (lf_A g_this_plan_code) (lf_A g_this_plan_spans) (Int32.toInt x_this_now_rule) (Int32.toInt x_this_now_green) (Int32.toInt x_this_street_asksReds) (lf_A g_this_refusals) (Int32.toInt p0) n := ⟨_, rfl⟩
        have hq : O = F_X9_days_22b (Int32.toInt x_this_plan_cycle) (Int32.toInt x_this_plan_least) (Int32.toInt x_this_plan_kinds) (lf_A g_this_plan_calm) (lf_A g_this_plan_pace) (Int32.toInt x_this_plan_walkers) (lf_A g_this_plan_kindOf) (lf_A g_this_plan_comesAt) (lf_A g_this_plan_comers) (lf_A g_this_plan_code) (lf_A g_this_plan_spans) (Int32.toInt x_this_now_rule) (Int32.toInt x_this_now_green) (Int32.toInt x_this_street_asksReds) (lf_A g_this_refusals) (Int32.toInt p0) K22 (Int32.toInt J22_c3_1) (Int32.toInt J22_c3_2) (lf_A J22_g_this_history_ring_rD) (lf_A J22_g_this_history_ring_rR) (lf_A J22_g_this_history_ring_rG) (lf_R J22_g_this_history_ring_rF) (Int32.toInt J22_l2) (Int32.toInt J22_l3) (Int32.toInt J22_c2_0) (Int32.toInt J22_c50_2) (Int32.toInt J22_c50_4) (Int32.toInt J22_c50_5) (Int32.toInt J22_c50_6) (Int32.toInt J22_c50_13) (Int32.toInt J22_c50_14) (Int32.toInt J22_c50_15) (Int32.toInt J22_c50_16) (lf_A J22_a6) (lf_A J22_a52) (lf_A J22_a55) (lf_A J22_a56) (lf_A J22_a57) (lf_A J22_a58) (lf_A J22_a59) (lf_A J22_a62) (lf_A J22_a63) := by rw [hK22]; exact hq
        unfold F_X9_days_22b at hq
        refine lv_iload_n hx hb dX9_days_22 rfl (lv_at hl 3 rfl) ?_
        refine lv_iload_n hx hb dX9_days_23 rfl (lv_at hl 1 rfl) ?_
        refine lv_icmp_ge (tgt := 59) hx hb dX9_days_24 rfl (fun c1 => ?_) (fun c1 => ?_)
        · replace hq := lf_pos hq (lf_le (lf_rf p0) (lf_rf J22_l3) c1)
          have h2 := ib_le hK22_p0 hJ22_l3 c1
          have h3 : ib J22_l3 1 30 := ib_w 1 30 h2.2 rfl
          refine lv_iload_n hx hb dX9_days_59 rfl (lv_at hl 2 rfl) ?_
          subst hQ; exact k_iret hx hb hr hlk rfl ((J22_c2_0, J22_c3_1, J22_c3_2, J22_a6, 0, 0, 0, g_this_refusals, J22_c50_2, J22_c50_4, J22_c50_5, J22_c50_6, J22_c50_13, J22_c50_14, J22_c50_15, J22_c50_16, J22_a52, J22_a55, J22_a56, J22_a57, J22_a58, J22_a59, J22_a62, J22_a63, J22_g_this_history_ring_rD, J22_g_this_history_ring_rR, J22_g_this_history_ring_rG, J22_g_this_history_ring_rF)) hS ⟨ib_w 0 19 hJ22_c3_1 rfl, ib_w 0 20 hJ22_c3_2 rfl, ib_w 0 1 (ib_c 0 0 0 rfl) rfl, ib_w 0 30 (ib_c 0 0 0 rfl) rfl, ib_w 0 1 (ib_c 0 0 0 rfl) rfl, (hO.symm.trans (by try simp only [show (0 : Int32).toInt = (0 : Int) from rfl]; exact hq))⟩ hP hD (Nat.le_of_ble_eq_true rfl) (Nat.le_of_ble_eq_true rfl) dX9_days_60
        · as_aux_lemma =>
            replace hq := lf_neg hq (lf_nle (lf_rf p0) (lf_rf J22_l3) c1)
            have h4 := ib_nle hK22_p0 hJ22_l3 c1
            have h5 : ib J22_l3 0 29 := ib_w 0 29 h4.2 rfl
            refine lv_aload_n hx hb dX9_days_27 rfl (lv_at hl 0 rfl) ?_
            refine k_jvm hP hD hS hA [0, 2, 50, 1, 51, 52, 53, 54, 55, 56, 57, 58, 6, 59, 60, 61, 62, 63, 64, 65, 66] [false, false, false, true, true, true, false, true, true, true, true, true, true, true, true, true, true, true, true, true, true, true, true, true, true, true, true, true, true, true, true, true, true, true, true, true, true, true, true, true, true, true, true, true, true, true, true, true, true, true] rfl rfl (by decide +kernel) 0 0 (Nat.le_of_ble_eq_true rfl) (Nat.le_of_ble_eq_true rfl) (fun hPc hDc => k_runV (As := []) (rest := []) C0 hZ hS hA (s_X9_layToday l dC dI cy sq a_this a_this_tape x_this_tapeSize a_this_plan x_this_plan_cycle x_this_plan_green x_this_plan_rule x_this_plan_least x_this_plan_away x_this_plan_statements x_this_plan_kinds a_this_plan_calm g_this_plan_calm a_this_plan_pace g_this_plan_pace a_this_plan_trusts x_this_plan_walkers a_this_plan_kindOf g_this_plan_kindOf a_this_plan_comesAt g_this_plan_comesAt a_this_plan_comers g_this_plan_comers a_this_plan_names a_this_plan_code g_this_plan_code x_this_plan_size a_this_plan_spans g_this_plan_spans a_this_spare a_this_now J22_c2_0 x_this_now_rule x_this_now_green a_this_now_trusts J22_a6 a_this_history a_this_machine a_this_machine_facts J22_a52 a_this_machine_stack J22_a55 a_this_reader a_this_street J22_c50_2 a_this_street_trusts J22_a58 J22_c50_4 J22_c50_5 J22_c50_6 x_this_street_asksReds a_this_street_cars J22_a56 a_this_street_gaps J22_a57 a_this_street_known J22_a59 a_this_street_left J22_a62 a_this_street_leaves J22_a63 J22_c50_13 J22_c50_14 J22_c50_15 J22_c50_16 a_this_choice a_this_ahead a_this_watch a_this_octets x_this_octetCount a_this_refusals x_this_drawn (ib_w 0 120 hK22_x_this_plan_cycle rfl) (ib_w 0 99 hx_this_plan_least rfl) (ib_w 0 6 hx_this_plan_kinds rfl) (ib_w 0 12 hx_this_plan_walkers rfl) hg_this_plan_kindOf hg_this_plan_comesAt hg_this_plan_spans (ib_w 0 1 hx_this_street_asksReds rfl)) mV_X9_190 hPc hDc rfl rfl rfl hl rfl rfl (Nat.le_of_ble_eq_true rfl) ⟨(Nat.le_of_ble_eq_true rfl), (Nat.le_of_ble_eq_true rfl)⟩ ⟨(Nat.le_of_ble_eq_true rfl), (Nat.le_of_ble_eq_true rfl)⟩ dX9_days_28) (fun u7 H locs hw hP hD hS => ?_)
            obtain ⟨v8, v9, v10, v11, v12, v13, v14, v15, f16, f17, f18, f19, f20, f21, f22, f23⟩ := u7
            try dsimp only at hP hD hw
            replace hP : va_P (dC, dI) vwCl [(wo_2_rii a_this_history a_this_history_ring J22_c3_1 J22_c3_2), (a_this_history_ring, .inl (cy 4, 20, .inr (.inr (.inr (.inr (rg_f rq_this_history_ring)))))), (wo_6_iiir (rq_this_history_ring 0) (J22_g_this_history_ring_rD 0) (J22_g_this_history_ring_rR 0) (J22_g_this_history_ring_rG 0) (rr_this_history_ring 0)), (wi_0_6_0 (rr_this_history_ring 0) cy (J22_g_this_history_ring_rF 0)), (wo_6_iiir (rq_this_history_ring 1) (J22_g_this_history_ring_rD 1) (J22_g_this_history_ring_rR 1) (J22_g_this_history_ring_rG 1) (rr_this_history_ring 1)), (wi_0_6_0 (rr_this_history_ring 1) cy (J22_g_this_history_ring_rF 1)), (wo_6_iiir (rq_this_history_ring 2) (J22_g_this_history_ring_rD 2) (J22_g_this_history_ring_rR 2) (J22_g_this_history_ring_rG 2) (rr_this_history_ring 2)), (wi_0_6_0 (rr_this_history_ring 2) cy (J22_g_this_history_ring_rF 2)), (wo_6_iiir (rq_this_history_ring 3) (J22_g_this_history_ring_rD 3) (J22_g_this_history_ring_rR 3) (J22_g_this_history_ring_rG 3) (rr_this_history_ring 3)), (wi_0_6_0 (rr_this_history_ring 3) cy (J22_g_this_history_ring_rF 3)), (wo_6_iiir (rq_this_history_ring 4) (J22_g_this_history_ring_rD 4) (J22_g_this_history_ring_rR 4) (J22_g_this_history_ring_rG 4) (rr_this_history_ring 4)), (wi_0_6_0 (rr_this_history_ring 4) cy (J22_g_this_history_ring_rF 4)), (wo_6_iiir (rq_this_history_ring 5) (J22_g_this_history_ring_rD 5) (J22_g_this_history_ring_rR 5) (J22_g_this_history_ring_rG 5) (rr_this_history_ring 5)), (wi_0_6_0 (rr_this_history_ring 5) cy (J22_g_this_history_ring_rF 5)), (wo_6_iiir (rq_this_history_ring 6) (J22_g_this_history_ring_rD 6) (J22_g_this_history_ring_rR 6) (J22_g_this_history_ring_rG 6) (rr_this_history_ring 6)), (wi_0_6_0 (rr_this_history_ring 6) cy (J22_g_this_history_ring_rF 6)), (wo_6_iiir (rq_this_history_ring 7) (J22_g_this_history_ring_rD 7) (J22_g_this_history_ring_rR 7) (J22_g_this_history_ring_rG 7) (rr_this_history_ring 7)), (wi_0_6_0 (rr_this_history_ring 7) cy (J22_g_this_history_ring_rF 7)), (wo_6_iiir (rq_this_history_ring 8) (J22_g_this_history_ring_rD 8) (J22_g_this_history_ring_rR 8) (J22_g_this_history_ring_rG 8) (rr_this_history_ring 8)), (wi_0_6_0 (rr_this_history_ring 8) cy (J22_g_this_history_ring_rF 8)), (wo_6_iiir (rq_this_history_ring 9) (J22_g_this_history_ring_rD 9) (J22_g_this_history_ring_rR 9) (J22_g_this_history_ring_rG 9) (rr_this_history_ring 9)), (wi_0_6_0 (rr_this_history_ring 9) cy (J22_g_this_history_ring_rF 9)), (wo_6_iiir (rq_this_history_ring 10) (J22_g_this_history_ring_rD 10) (J22_g_this_history_ring_rR 10) (J22_g_this_history_ring_rG 10) (rr_this_history_ring 10)), (wi_0_6_0 (rr_this_history_ring 10) cy (J22_g_this_history_ring_rF 10)), (wo_6_iiir (rq_this_history_ring 11) (J22_g_this_history_ring_rD 11) (J22_g_this_history_ring_rR 11) (J22_g_this_history_ring_rG 11) (rr_this_history_ring 11)), (wi_0_6_0 (rr_this_history_ring 11) cy (J22_g_this_history_ring_rF 11)), (wo_6_iiir (rq_this_history_ring 12) (J22_g_this_history_ring_rD 12) (J22_g_this_history_ring_rR 12) (J22_g_this_history_ring_rG 12) (rr_this_history_ring 12)), (wi_0_6_0 (rr_this_history_ring 12) cy (J22_g_this_history_ring_rF 12)), (wo_6_iiir (rq_this_history_ring 13) (J22_g_this_history_ring_rD 13) (J22_g_this_history_ring_rR 13) (J22_g_this_history_ring_rG 13) (rr_this_history_ring 13)), (wi_0_6_0 (rr_this_history_ring 13) cy (J22_g_this_history_ring_rF 13)), (wo_6_iiir (rq_this_history_ring 14) (J22_g_this_history_ring_rD 14) (J22_g_this_history_ring_rR 14) (J22_g_this_history_ring_rG 14) (rr_this_history_ring 14)), (wi_0_6_0 (rr_this_history_ring 14) cy (J22_g_this_history_ring_rF 14)), (wo_6_iiir (rq_this_history_ring 15) (J22_g_this_history_ring_rD 15) (J22_g_this_history_ring_rR 15) (J22_g_this_history_ring_rG 15) (rr_this_history_ring 15)), (wi_0_6_0 (rr_this_history_ring 15) cy (J22_g_this_history_ring_rF 15)), (wo_6_iiir (rq_this_history_ring 16) (J22_g_this_history_ring_rD 16) (J22_g_this_history_ring_rR 16) (J22_g_this_history_ring_rG 16) (rr_this_history_ring 16)), (wi_0_6_0 (rr_this_history_ring 16) cy (J22_g_this_history_ring_rF 16)), (wo_6_iiir (rq_this_history_ring 17) (J22_g_this_history_ring_rD 17) (J22_g_this_history_ring_rR 17) (J22_g_this_history_ring_rG 17) (rr_this_history_ring 17)), (wi_0_6_0 (rr_this_history_ring 17) cy (J22_g_this_history_ring_rF 17)), (wo_6_iiir (rq_this_history_ring 18) (J22_g_this_history_ring_rD 18) (J22_g_this_history_ring_rR 18) (J22_g_this_history_ring_rG 18) (rr_this_history_ring 18)), (wi_0_6_0 (rr_this_history_ring 18) cy (J22_g_this_history_ring_rF 18)), (wo_6_iiir (rq_this_history_ring 19) (J22_g_this_history_ring_rD 19) (J22_g_this_history_ring_rR 19) (J22_g_this_history_ring_rG 19) (rr_this_history_ring 19)), (wi_0_6_0 (rr_this_history_ring 19) cy (J22_g_this_history_ring_rF 19)), (wo_1_rri a_this_choice a_this_street a_this_choice_table 0), (wo_0_rrrri a_this_ahead a_this_street a_this_ahead_state a_this_ahead_told a_this_ahead_trusts 0), (wo_8_rrriiriiiii a_this_watch a_this_street a_this_watch_seenWalker a_this_watch_seenSecond x_this_watch_rows 0 a_this_watch_seconds x_this_watch_found x_this_watch_foundRules x_this_watch_foundGreen x_this_watch_chosen x_this_watch_chosenLeft), (wi_0_6_0 a_this_refusals cy g_this_refusals), (wo_9_rirrrrrrrrrrrirl a_this a_this_tape x_this_tapeSize a_this_plan a_this_spare a_this_now a_this_history a_this_machine a_this_reader a_this_street a_this_choice a_this_ahead a_this_watch a_this_octets x_this_octetCount a_this_refusals x_this_drawn), (wo_6_iiir a_this_now J22_c2_0 x_this_now_rule x_this_now_green a_this_now_trusts), (wo_7_rririiiirrrrriiii a_this_street a_this_machine a_this_plan v8 a_this_street_trusts v9 v10 v11 x_this_street_asksReds a_this_street_cars a_this_street_gaps a_this_street_known a_this_street_left a_this_street_leaves v12 v13 v14 v15), (wo_4_iiiiiiirrrirrrrrir a_this_plan x_this_plan_cycle x_this_plan_green x_this_plan_rule x_this_plan_least x_this_plan_away x_this_plan_statements x_this_plan_kinds a_this_plan_calm a_this_plan_pace a_this_plan_trusts x_this_plan_walkers a_this_plan_kindOf a_this_plan_comesAt a_this_plan_comers a_this_plan_names a_this_plan_code x_this_plan_size a_this_plan_spans), (wo_3_rr a_this_machine a_this_machine_facts a_this_machine_stack), (wi_0_13_0 a_this_machine_facts cy f16), (wi_0_6_0 a_this_plan_spans cy g_this_plan_spans), (wi_0_1600_0 a_this_plan_code cy g_this_plan_code), (wi_0_64_0 a_this_machine_stack cy f17), (wi_0_320_0 a_this_street_cars cy f18), (wi_0_320_0 a_this_street_gaps cy f19), (wi_0_6_0 a_this_street_trusts cy f20), (wi_0_6_0 a_this_now_trusts cy J22_a6), (wi_0_3600_0 a_this_street_known cy f21), (wi_0_12_0 a_this_plan_kindOf cy g_this_plan_kindOf), (wi_0_200_0 a_this_plan_comers cy g_this_plan_comers), (wi_0_300_0 a_this_street_left cy f22), (wi_0_12_0 a_this_street_leaves cy f23), (wi_0_6_0 a_this_plan_pace cy g_this_plan_pace), (wi_0_12_0 a_this_plan_comesAt cy g_this_plan_comesAt), (wi_0_6_0 a_this_plan_calm cy g_this_plan_calm)] H := hP
            replace hD := k_D hP hD
            have h24 := hw
            replace hq := lf_p1 hq h24
            replace hq := lf_p1 hq rfl
            replace hq := lf_p1 hq rfl
            replace hq := lf_p1 hq rfl
            replace hq := lf_p1 hq rfl
            replace hq := lf_p1 hq rfl
            replace hq := lf_p1 hq rfl
            replace hq := lf_p1 hq rfl
            replace hq := lf_p1 hq rfl
            replace hq := lf_p1 hq rfl
            replace hq := lf_p1 hq rfl
            replace hq := lf_p1 hq rfl
            replace hq := lf_p1 hq rfl
            replace hq := lf_p1 hq rfl
            replace hq := lf_p1 hq rfl
            refine lv_iload_n hx hb dX9_days_31 rfl (lv_at hl 2 rfl) ?_
            refine lv_aload_n hx hb dX9_days_32 rfl (lv_at hl 0 rfl) ?_
            refine k_get C0 fg_X9_62 hP 46 rfl rfl dX9_days_33 ?_
            refine lv_iconst (v := 0) hx hb dX9_days_36 rfl ?_
            refine k_jim hP hD hS hA [48, 49, 63, 65] [true, true, true, true, true, true, true, true, true, true, true, true, true, true, true, true, true, true, true, true, true, true, true, true, true, true, true, true, true, true, true, true, true, true, true, true, true, true, true, true, true, true, true, true, true, true, true, true, false, false, true, true, true, true, true, true, true, true, true, true, true, true, true, false, true, false, true] rfl rfl (by decide +kernel) 0 0 (Nat.le_of_ble_eq_true rfl) (Nat.le_of_ble_eq_true rfl) (fun hPc hDc => k_runV (As := [.int 0]) (rest := [.int J22_l2]) C0 hZ hS hA (s_X7_told_a0_0 l dC dI cy sq a_this_street a_this_machine a_this_plan x_this_plan_cycle x_this_plan_green x_this_plan_rule x_this_plan_least x_this_plan_away x_this_plan_statements x_this_plan_kinds a_this_plan_calm a_this_plan_pace a_this_plan_trusts x_this_plan_walkers a_this_plan_kindOf a_this_plan_comesAt g_this_plan_comesAt a_this_plan_comers a_this_plan_names a_this_plan_code x_this_plan_size a_this_plan_spans v8 a_this_street_trusts v9 v10 v11 x_this_street_asksReds a_this_street_cars a_this_street_gaps a_this_street_known a_this_street_left a_this_street_leaves f23 v12 v13 v14 v15 (ib_w 0 12 hx_this_plan_walkers rfl) hg_this_plan_comesAt) mV_X9_228 hPc hDc rfl rfl rfl hl rfl rfl (Nat.le_of_ble_eq_true rfl) ⟨(Nat.le_of_ble_eq_true rfl), (Nat.le_of_ble_eq_true rfl)⟩ ⟨(Nat.le_of_ble_eq_true rfl), (Nat.le_of_ble_eq_true rfl)⟩ dX9_days_37) (fun r25 u26 H locs hw hP hD hS => ?_)
            as_aux_lemma =>
              try dsimp only at hP hD hw
              replace hP : va_P (dC, dI) vwCl [(wo_2_rii a_this_history a_this_history_ring J22_c3_1 J22_c3_2), (a_this_history_ring, .inl (cy 4, 20, .inr (.inr (.inr (.inr (rg_f rq_this_history_ring)))))), (wo_6_iiir (rq_this_history_ring 0) (J22_g_this_history_ring_rD 0) (J22_g_this_history_ring_rR 0) (J22_g_this_history_ring_rG 0) (rr_this_history_ring 0)), (wi_0_6_0 (rr_this_history_ring 0) cy (J22_g_this_history_ring_rF 0)), (wo_6_iiir (rq_this_history_ring 1) (J22_g_this_history_ring_rD 1) (J22_g_this_history_ring_rR 1) (J22_g_this_history_ring_rG 1) (rr_this_history_ring 1)), (wi_0_6_0 (rr_this_history_ring 1) cy (J22_g_this_history_ring_rF 1)), (wo_6_iiir (rq_this_history_ring 2) (J22_g_this_history_ring_rD 2) (J22_g_this_history_ring_rR 2) (J22_g_this_history_ring_rG 2) (rr_this_history_ring 2)), (wi_0_6_0 (rr_this_history_ring 2) cy (J22_g_this_history_ring_rF 2)), (wo_6_iiir (rq_this_history_ring 3) (J22_g_this_history_ring_rD 3) (J22_g_this_history_ring_rR 3) (J22_g_this_history_ring_rG 3) (rr_this_history_ring 3)), (wi_0_6_0 (rr_this_history_ring 3) cy (J22_g_this_history_ring_rF 3)), (wo_6_iiir (rq_this_history_ring 4) (J22_g_this_history_ring_rD 4) (J22_g_this_history_ring_rR 4) (J22_g_this_history_ring_rG 4) (rr_this_history_ring 4)), (wi_0_6_0 (rr_this_history_ring 4) cy (J22_g_this_history_ring_rF 4)), (wo_6_iiir (rq_this_history_ring 5) (J22_g_this_history_ring_rD 5) (J22_g_this_history_ring_rR 5) (J22_g_this_history_ring_rG 5) (rr_this_history_ring 5)), (wi_0_6_0 (rr_this_history_ring 5) cy (J22_g_this_history_ring_rF 5)), (wo_6_iiir (rq_this_history_ring 6) (J22_g_this_history_ring_rD 6) (J22_g_this_history_ring_rR 6) (J22_g_this_history_ring_rG 6) (rr_this_history_ring 6)), (wi_0_6_0 (rr_this_history_ring 6) cy (J22_g_this_history_ring_rF 6)), (wo_6_iiir (rq_this_history_ring 7) (J22_g_this_history_ring_rD 7) (J22_g_this_history_ring_rR 7) (J22_g_this_history_ring_rG 7) (rr_this_history_ring 7)), (wi_0_6_0 (rr_this_history_ring 7) cy (J22_g_this_history_ring_rF 7)), (wo_6_iiir (rq_this_history_ring 8) (J22_g_this_history_ring_rD 8) (J22_g_this_history_ring_rR 8) (J22_g_this_history_ring_rG 8) (rr_this_history_ring 8)), (wi_0_6_0 (rr_this_history_ring 8) cy (J22_g_this_history_ring_rF 8)), (wo_6_iiir (rq_this_history_ring 9) (J22_g_this_history_ring_rD 9) (J22_g_this_history_ring_rR 9) (J22_g_this_history_ring_rG 9) (rr_this_history_ring 9)), (wi_0_6_0 (rr_this_history_ring 9) cy (J22_g_this_history_ring_rF 9)), (wo_6_iiir (rq_this_history_ring 10) (J22_g_this_history_ring_rD 10) (J22_g_this_history_ring_rR 10) (J22_g_this_history_ring_rG 10) (rr_this_history_ring 10)), (wi_0_6_0 (rr_this_history_ring 10) cy (J22_g_this_history_ring_rF 10)), (wo_6_iiir (rq_this_history_ring 11) (J22_g_this_history_ring_rD 11) (J22_g_this_history_ring_rR 11) (J22_g_this_history_ring_rG 11) (rr_this_history_ring 11)), (wi_0_6_0 (rr_this_history_ring 11) cy (J22_g_this_history_ring_rF 11)), (wo_6_iiir (rq_this_history_ring 12) (J22_g_this_history_ring_rD 12) (J22_g_this_history_ring_rR 12) (J22_g_this_history_ring_rG 12) (rr_this_history_ring 12)), (wi_0_6_0 (rr_this_history_ring 12) cy (J22_g_this_history_ring_rF 12)), (wo_6_iiir (rq_this_history_ring 13) (J22_g_this_history_ring_rD 13) (J22_g_this_history_ring_rR 13) (J22_g_this_history_ring_rG 13) (rr_this_history_ring 13)), (wi_0_6_0 (rr_this_history_ring 13) cy (J22_g_this_history_ring_rF 13)), (wo_6_iiir (rq_this_history_ring 14) (J22_g_this_history_ring_rD 14) (J22_g_this_history_ring_rR 14) (J22_g_this_history_ring_rG 14) (rr_this_history_ring 14)), (wi_0_6_0 (rr_this_history_ring 14) cy (J22_g_this_history_ring_rF 14)), (wo_6_iiir (rq_this_history_ring 15) (J22_g_this_history_ring_rD 15) (J22_g_this_history_ring_rR 15) (J22_g_this_history_ring_rG 15) (rr_this_history_ring 15)), (wi_0_6_0 (rr_this_history_ring 15) cy (J22_g_this_history_ring_rF 15)), (wo_6_iiir (rq_this_history_ring 16) (J22_g_this_history_ring_rD 16) (J22_g_this_history_ring_rR 16) (J22_g_this_history_ring_rG 16) (rr_this_history_ring 16)), (wi_0_6_0 (rr_this_history_ring 16) cy (J22_g_this_history_ring_rF 16)), (wo_6_iiir (rq_this_history_ring 17) (J22_g_this_history_ring_rD 17) (J22_g_this_history_ring_rR 17) (J22_g_this_history_ring_rG 17) (rr_this_history_ring 17)), (wi_0_6_0 (rr_this_history_ring 17) cy (J22_g_this_history_ring_rF 17)), (wo_6_iiir (rq_this_history_ring 18) (J22_g_this_history_ring_rD 18) (J22_g_this_history_ring_rR 18) (J22_g_this_history_ring_rG 18) (rr_this_history_ring 18)), (wi_0_6_0 (rr_this_history_ring 18) cy (J22_g_this_history_ring_rF 18)), (wo_6_iiir (rq_this_history_ring 19) (J22_g_this_history_ring_rD 19) (J22_g_this_history_ring_rR 19) (J22_g_this_history_ring_rG 19) (rr_this_history_ring 19)), (wi_0_6_0 (rr_this_history_ring 19) cy (J22_g_this_history_ring_rF 19)), (wo_1_rri a_this_choice a_this_street a_this_choice_table 0), (wo_0_rrrri a_this_ahead a_this_street a_this_ahead_state a_this_ahead_told a_this_ahead_trusts 0), (wo_8_rrriiriiiii a_this_watch a_this_street a_this_watch_seenWalker a_this_watch_seenSecond x_this_watch_rows 0 a_this_watch_seconds x_this_watch_found x_this_watch_foundRules x_this_watch_foundGreen x_this_watch_chosen x_this_watch_chosenLeft), (wi_0_6_0 a_this_refusals cy g_this_refusals), (wo_9_rirrrrrrrrrrrirl a_this a_this_tape x_this_tapeSize a_this_plan a_this_spare a_this_now a_this_history a_this_machine a_this_reader a_this_street a_this_choice a_this_ahead a_this_watch a_this_octets x_this_octetCount a_this_refusals x_this_drawn), (wo_6_iiir a_this_now J22_c2_0 x_this_now_rule x_this_now_green a_this_now_trusts), (wo_3_rr a_this_machine a_this_machine_facts a_this_machine_stack), (wi_0_13_0 a_this_machine_facts cy f16), (wi_0_6_0 a_this_plan_spans cy g_this_plan_spans), (wi_0_1600_0 a_this_plan_code cy g_this_plan_code), (wi_0_64_0 a_this_machine_stack cy f17), (wi_0_320_0 a_this_street_cars cy f18), (wi_0_320_0 a_this_street_gaps cy f19), (wi_0_6_0 a_this_street_trusts cy f20), (wi_0_6_0 a_this_now_trusts cy J22_a6), (wi_0_3600_0 a_this_street_known cy f21), (wi_0_12_0 a_this_plan_kindOf cy g_this_plan_kindOf), (wi_0_200_0 a_this_plan_comers cy g_this_plan_comers), (wi_0_300_0 a_this_street_left cy f22), (wi_0_6_0 a_this_plan_pace cy g_this_plan_pace), (wi_0_6_0 a_this_plan_calm cy g_this_plan_calm), (wo_7_rririiiirrrrriiii a_this_street a_this_machine a_this_plan v8 a_this_street_trusts v9 v10 v11 x_this_street_asksReds a_this_street_cars a_this_street_gaps a_this_street_known a_this_street_left a_this_street_leaves v12 v13 v14 v15), (wo_4_iiiiiiirrrirrrrrir a_this_plan x_this_plan_cycle x_this_plan_green x_this_plan_rule x_this_plan_least x_this_plan_away x_this_plan_statements x_this_plan_kinds a_this_plan_calm a_this_plan_pace a_this_plan_trusts x_this_plan_walkers a_this_plan_kindOf a_this_plan_comesAt a_this_plan_comers a_this_plan_names a_this_plan_code x_this_plan_size a_this_plan_spans), (wi_0_12_0 a_this_street_leaves cy f23), (wi_0_12_0 a_this_plan_comesAt cy g_this_plan_comesAt)] H := hP
              replace hD := k_D hP hD
              have h27 := hw
              replace hq := lf_b1 hq h27
              refine lv_iadd hx hb dX9_days_40 ?_
              refine lv_topi (fun z28 ez28 => ?_)
              have Ez28 := lf_op lf_iadd ez28 (lf_rf J22_l2) (lf_rf r25)
              refine lv_istore_n (lv' := [(2, .int z28), (0, .ref a_this), (1, .int p0), (3, .int J22_l3)]) hx hb dX9_days_41 rfl hl (Nat.le_of_ble_eq_true rfl) rfl (fun ls hl => ?_)
              refine lv_aload_n hx hb dX9_days_42 rfl (lv_at hl 1 rfl) ?_
              refine k_get C0 fg_X9_62 hP 46 rfl rfl dX9_days_43 ?_
              refine lv_aload_n hx hb dX9_days_46 rfl (lv_at hl 1 rfl) ?_
              refine k_get C0 fg_X9_30 hP 46 rfl rfl dX9_days_47 ?_
              refine k_jvm hP hD hS hA [63, 64, 47, 58, 66, 65, 56, 48, 49, 62, 61, 50, 51, 52] [true, true, true, true, true, true, true, true, true, true, true, true, true, true, true, true, true, true, true, true, true, true, true, true, true, true, true, true, true, true, true, true, true, true, true, true, true, true, true, true, true, true, true, true, true, true, true, false, false, false, false, false, false, true, true, true, false, true, false, true, true] rfl rfl (by decide +kernel) 0 0 (Nat.le_of_ble_eq_true rfl) (Nat.le_of_ble_eq_true rfl) (fun hPc hDc => k_runV (As := [.ref a_this_now]) (rest := []) C0 hZ hS hA (s_X7_pass l dC dI cy sq a_this_street a_this_machine a_this_machine_facts f16 a_this_machine_stack f17 a_this_plan x_this_plan_cycle x_this_plan_green x_this_plan_rule x_this_plan_least x_this_plan_away x_this_plan_statements x_this_plan_kinds a_this_plan_calm g_this_plan_calm a_this_plan_pace g_this_plan_pace a_this_plan_trusts x_this_plan_walkers a_this_plan_kindOf g_this_plan_kindOf a_this_plan_comesAt g_this_plan_comesAt a_this_plan_comers a_this_plan_names a_this_plan_code g_this_plan_code x_this_plan_size a_this_plan_spans g_this_plan_spans v8 a_this_street_trusts v9 v10 v11 x_this_street_asksReds a_this_street_cars a_this_street_gaps a_this_street_known a_this_street_left a_this_street_leaves f23 v12 v13 v14 v15 a_this_now J22_c2_0 x_this_now_rule x_this_now_green a_this_now_trusts J22_a6 (ib_w 0 12 hx_this_plan_walkers rfl) hg_this_plan_kindOf hg_this_plan_comesAt hg_this_plan_spans) mV_X9_290 hPc hDc rfl rfl rfl hl rfl rfl (Nat.le_of_ble_eq_true rfl) ⟨(Nat.le_of_ble_eq_true rfl), (Nat.le_of_ble_eq_true rfl)⟩ ⟨(Nat.le_of_ble_eq_true rfl), (Nat.le_of_ble_eq_true rfl)⟩ dX9_days_50) (fun u30 H locs hw hP hD hS => ?_)
              obtain ⟨v31, f32, f33, f34⟩ := u30
              try dsimp only at hP hD hw
              replace hP : va_P (dC, dI) vwCl [(wo_2_rii a_this_history a_this_history_ring J22_c3_1 J22_c3_2), (a_this_history_ring, .inl (cy 4, 20, .inr (.inr (.inr (.inr (rg_f rq_this_history_ring)))))), (wo_6_iiir (rq_this_history_ring 0) (J22_g_this_history_ring_rD 0) (J22_g_this_history_ring_rR 0) (J22_g_this_history_ring_rG 0) (rr_this_history_ring 0)), (wi_0_6_0 (rr_this_history_ring 0) cy (J22_g_this_history_ring_rF 0)), (wo_6_iiir (rq_this_history_ring 1) (J22_g_this_history_ring_rD 1) (J22_g_this_history_ring_rR 1) (J22_g_this_history_ring_rG 1) (rr_this_history_ring 1)), (wi_0_6_0 (rr_this_history_ring 1) cy (J22_g_this_history_ring_rF 1)), (wo_6_iiir (rq_this_history_ring 2) (J22_g_this_history_ring_rD 2) (J22_g_this_history_ring_rR 2) (J22_g_this_history_ring_rG 2) (rr_this_history_ring 2)), (wi_0_6_0 (rr_this_history_ring 2) cy (J22_g_this_history_ring_rF 2)), (wo_6_iiir (rq_this_history_ring 3) (J22_g_this_history_ring_rD 3) (J22_g_this_history_ring_rR 3) (J22_g_this_history_ring_rG 3) (rr_this_history_ring 3)), (wi_0_6_0 (rr_this_history_ring 3) cy (J22_g_this_history_ring_rF 3)), (wo_6_iiir (rq_this_history_ring 4) (J22_g_this_history_ring_rD 4) (J22_g_this_history_ring_rR 4) (J22_g_this_history_ring_rG 4) (rr_this_history_ring 4)), (wi_0_6_0 (rr_this_history_ring 4) cy (J22_g_this_history_ring_rF 4)), (wo_6_iiir (rq_this_history_ring 5) (J22_g_this_history_ring_rD 5) (J22_g_this_history_ring_rR 5) (J22_g_this_history_ring_rG 5) (rr_this_history_ring 5)), (wi_0_6_0 (rr_this_history_ring 5) cy (J22_g_this_history_ring_rF 5)), (wo_6_iiir (rq_this_history_ring 6) (J22_g_this_history_ring_rD 6) (J22_g_this_history_ring_rR 6) (J22_g_this_history_ring_rG 6) (rr_this_history_ring 6)), (wi_0_6_0 (rr_this_history_ring 6) cy (J22_g_this_history_ring_rF 6)), (wo_6_iiir (rq_this_history_ring 7) (J22_g_this_history_ring_rD 7) (J22_g_this_history_ring_rR 7) (J22_g_this_history_ring_rG 7) (rr_this_history_ring 7)), (wi_0_6_0 (rr_this_history_ring 7) cy (J22_g_this_history_ring_rF 7)), (wo_6_iiir (rq_this_history_ring 8) (J22_g_this_history_ring_rD 8) (J22_g_this_history_ring_rR 8) (J22_g_this_history_ring_rG 8) (rr_this_history_ring 8)), (wi_0_6_0 (rr_this_history_ring 8) cy (J22_g_this_history_ring_rF 8)), (wo_6_iiir (rq_this_history_ring 9) (J22_g_this_history_ring_rD 9) (J22_g_this_history_ring_rR 9) (J22_g_this_history_ring_rG 9) (rr_this_history_ring 9)), (wi_0_6_0 (rr_this_history_ring 9) cy (J22_g_this_history_ring_rF 9)), (wo_6_iiir (rq_this_history_ring 10) (J22_g_this_history_ring_rD 10) (J22_g_this_history_ring_rR 10) (J22_g_this_history_ring_rG 10) (rr_this_history_ring 10)), (wi_0_6_0 (rr_this_history_ring 10) cy (J22_g_this_history_ring_rF 10)), (wo_6_iiir (rq_this_history_ring 11) (J22_g_this_history_ring_rD 11) (J22_g_this_history_ring_rR 11) (J22_g_this_history_ring_rG 11) (rr_this_history_ring 11)), (wi_0_6_0 (rr_this_history_ring 11) cy (J22_g_this_history_ring_rF 11)), (wo_6_iiir (rq_this_history_ring 12) (J22_g_this_history_ring_rD 12) (J22_g_this_history_ring_rR 12) (J22_g_this_history_ring_rG 12) (rr_this_history_ring 12)), (wi_0_6_0 (rr_this_history_ring 12) cy (J22_g_this_history_ring_rF 12)), (wo_6_iiir (rq_this_history_ring 13) (J22_g_this_history_ring_rD 13) (J22_g_this_history_ring_rR 13) (J22_g_this_history_ring_rG 13) (rr_this_history_ring 13)), (wi_0_6_0 (rr_this_history_ring 13) cy (J22_g_this_history_ring_rF 13)), (wo_6_iiir (rq_this_history_ring 14) (J22_g_this_history_ring_rD 14) (J22_g_this_history_ring_rR 14) (J22_g_this_history_ring_rG 14) (rr_this_history_ring 14)), (wi_0_6_0 (rr_this_history_ring 14) cy (J22_g_this_history_ring_rF 14)), (wo_6_iiir (rq_this_history_ring 15) (J22_g_this_history_ring_rD 15) (J22_g_this_history_ring_rR 15) (J22_g_this_history_ring_rG 15) (rr_this_history_ring 15)), (wi_0_6_0 (rr_this_history_ring 15) cy (J22_g_this_history_ring_rF 15)), (wo_6_iiir (rq_this_history_ring 16) (J22_g_this_history_ring_rD 16) (J22_g_this_history_ring_rR 16) (J22_g_this_history_ring_rG 16) (rr_this_history_ring 16)), (wi_0_6_0 (rr_this_history_ring 16) cy (J22_g_this_history_ring_rF 16)), (wo_6_iiir (rq_this_history_ring 17) (J22_g_this_history_ring_rD 17) (J22_g_this_history_ring_rR 17) (J22_g_this_history_ring_rG 17) (rr_this_history_ring 17)), (wi_0_6_0 (rr_this_history_ring 17) cy (J22_g_this_history_ring_rF 17)), (wo_6_iiir (rq_this_history_ring 18) (J22_g_this_history_ring_rD 18) (J22_g_this_history_ring_rR 18) (J22_g_this_history_ring_rG 18) (rr_this_history_ring 18)), (wi_0_6_0 (rr_this_history_ring 18) cy (J22_g_this_history_ring_rF 18)), (wo_6_iiir (rq_this_history_ring 19) (J22_g_this_history_ring_rD 19) (J22_g_this_history_ring_rR 19) (J22_g_this_history_ring_rG 19) (rr_this_history_ring 19)), (wi_0_6_0 (rr_this_history_ring 19) cy (J22_g_this_history_ring_rF 19)), (wo_1_rri a_this_choice a_this_street a_this_choice_table 0), (wo_0_rrrri a_this_ahead a_this_street a_this_ahead_state a_this_ahead_told a_this_ahead_trusts 0), (wo_8_rrriiriiiii a_this_watch a_this_street a_this_watch_seenWalker a_this_watch_seenSecond x_this_watch_rows 0 a_this_watch_seconds x_this_watch_found x_this_watch_foundRules x_this_watch_foundGreen x_this_watch_chosen x_this_watch_chosenLeft), (wi_0_6_0 a_this_refusals cy g_this_refusals), (wo_9_rirrrrrrrrrrrirl a_this a_this_tape x_this_tapeSize a_this_plan a_this_spare a_this_now a_this_history a_this_machine a_this_reader a_this_street a_this_choice a_this_ahead a_this_watch a_this_octets x_this_octetCount a_this_refusals x_this_drawn), (wi_0_320_0 a_this_street_cars cy f18), (wi_0_320_0 a_this_street_gaps cy f19), (wi_0_6_0 a_this_street_trusts cy f20), (wi_0_3600_0 a_this_street_known cy f21), (wi_0_200_0 a_this_plan_comers cy g_this_plan_comers), (wi_0_300_0 a_this_street_left cy f22), (wo_7_rririiiirrrrriiii a_this_street a_this_machine a_this_plan v8 a_this_street_trusts v9 v10 v11 x_this_street_asksReds a_this_street_cars a_this_street_gaps a_this_street_known a_this_street_left a_this_street_leaves v12 v13 v14 v15), (wo_4_iiiiiiirrrirrrrrir a_this_plan x_this_plan_cycle x_this_plan_green x_this_plan_rule x_this_plan_least x_this_plan_away x_this_plan_statements x_this_plan_kinds a_this_plan_calm a_this_plan_pace a_this_plan_trusts x_this_plan_walkers a_this_plan_kindOf a_this_plan_comesAt a_this_plan_comers a_this_plan_names a_this_plan_code x_this_plan_size a_this_plan_spans), (wo_6_iiir a_this_now v31 x_this_now_rule x_this_now_green a_this_now_trusts), (wi_0_12_0 a_this_plan_kindOf cy g_this_plan_kindOf), (wi_0_12_0 a_this_plan_comesAt cy g_this_plan_comesAt), (wi_0_12_0 a_this_street_leaves cy f23), (wi_0_6_0 a_this_now_trusts cy f32), (wo_3_rr a_this_machine a_this_machine_facts a_this_machine_stack), (wi_0_13_0 a_this_machine_facts cy f33), (wi_0_6_0 a_this_plan_calm cy g_this_plan_calm), (wi_0_6_0 a_this_plan_pace cy g_this_plan_pace), (wi_0_6_0 a_this_plan_spans cy g_this_plan_spans), (wi_0_1600_0 a_this_plan_code cy g_this_plan_code), (wi_0_64_0 a_this_machine_stack cy f34)] H := hP
              replace hD := k_D hP hD
              have h35 := hw
              replace hq := lf_p1 hq h35
              replace hq := lf_p1 hq rfl
              replace hq := lf_p1 hq rfl
              obtain ⟨z36, ez36⟩ : ∃ y : Int32, y = J22_l3 + 1 := ⟨_, rfl⟩
              refine lv_iinc (v := z36) (lv' := [(3, .int z36), (2, .int z28), (0, .ref a_this), (1, .int p0)]) hx hb dX9_days_53 hl (k := 3) rfl (by rw [ez36]; rfl) (Nat.le_of_ble_eq_true rfl) rfl (fun ls hl => ?_)
              have h37 := ib_add h5 (ib_c 1 1 1 rfl) rfl
              rw [← ez36] at h37
              have h38 : ib z36 1 30 := ib_w 1 30 h37.1 rfl
              have Ez36 := lf_add h37.2 (lf_rf J22_l3) (lf_lc 1 (1 : Int) rfl)
              refine lv_goto (tgt := 22) hx hb dX9_days_56 rfl ?_
              exact ih22 J22_c3_1 J22_c3_2 J22_g_this_history_ring_rD J22_g_this_history_ring_rR J22_g_this_history_ring_rG J22_g_this_history_ring_rF z28 z36 v31 v8 v9 v10 v11 v12 v13 v14 v15 f32 f33 f34 f18 f19 f20 f21 f22 f23 H locs ls (ib_w 1 30 hK22_p0 rfl) (ib_w 1 120 hK22_x_this_plan_cycle rfl) (ib_w 0 19 hJ22_c3_1 rfl) (ib_w 1 20 hJ22_c3_2 rfl) (ib_w 0 30 h38 rfl) (by rw [← hK22]; rw [lf_u Ez28]; rw [lf_u Ez36]; exact hq) (by have := h37.2; have : (1 : Int32).toInt = 1 := rfl; omega) (hP.sub [46, 54, 55, 0, 1, 2, 59, 3, 4, 5, 6, 7, 8, 9, 10, 11, 12, 13, 14, 15, 16, 17, 18, 19, 20, 21, 22, 23, 24, 25, 26, 27, 28, 29, 30, 31, 32, 33, 34, 35, 36, 37, 38, 39, 40, 41, 42, 43, 44, 45, 53, 60, 61, 64, 65, 66, 47, 48, 49, 50, 56, 51, 52, 58, 63, 57, 62] rfl) (hD.sub [46, 54, 55, 0, 1, 2, 59, 3, 4, 5, 6, 7, 8, 9, 10, 11, 12, 13, 14, 15, 16, 17, 18, 19, 20, 21, 22, 23, 24, 25, 26, 27, 28, 29, 30, 31, 32, 33, 34, 35, 36, 37, 38, 39, 40, 41, 42, 43, 44, 45, 53, 60, 61, 64, 65, 66, 47, 48, 49, 50, 56, 51, 52, 58, 63, 57, 62] (by decide +kernel) rfl) hS (lv_sub hl [2, 3, 1, 0] rfl)
  refine lv_aload_n hx hb dX9_days_0 rfl (lv_at hl 0 rfl) ?_
  refine lv_iload_n hx hb dX9_days_1 rfl (lv_at hl 1 rfl) ?_
  refine k_jim hP hD hS hA [0, 1, 2] [false, false, false, true, true, true, true, true, true, true, true, true, true, true, true, true, true, true, true, true, true, true, true, true, true, true, true, true, true, true, true, true, true, true, true, true, true, true, true, true, true, true, true, true, true, true, true, true, true, true, true, true, true, true, true, true, true, true, true, true, true, true, true, true, true, true, true] rfl rfl (by decide +kernel) 0 0 (Nat.le_of_ble_eq_true rfl) (Nat.le_of_ble_eq_true rfl) (fun hPc hDc => k_runV (As := [.int p0]) (rest := []) C0 hZ hS hA (s_X9_canLive l dC dI cy sq a_this a_this_tape x_this_tapeSize a_this_plan x_this_plan_cycle x_this_plan_green x_this_plan_rule x_this_plan_least x_this_plan_away x_this_plan_statements x_this_plan_kinds a_this_plan_calm a_this_plan_pace a_this_plan_trusts x_this_plan_walkers a_this_plan_kindOf a_this_plan_comesAt a_this_plan_comers a_this_plan_names a_this_plan_code x_this_plan_size a_this_plan_spans a_this_spare a_this_now x_this_now_day x_this_now_rule x_this_now_green a_this_now_trusts a_this_history a_this_machine a_this_reader a_this_street a_this_choice a_this_ahead a_this_watch a_this_octets x_this_octetCount a_this_refusals x_this_drawn p0 (ib_w 0 120 hx_this_plan_cycle rfl)) mV_X9_287 hPc hDc rfl rfl rfl hl rfl rfl (Nat.le_of_ble_eq_true rfl) ⟨(Nat.le_of_ble_eq_true rfl), (Nat.le_of_ble_eq_true rfl)⟩ ⟨(Nat.le_of_ble_eq_true rfl), (Nat.le_of_ble_eq_true rfl)⟩ dX9_days_2) (fun r39 u40 H locs hw hP hD hS => ?_)
  try dsimp only at hP hD hw
  replace hP : va_P (dC, dI) vwCl [(wo_2_rii a_this_history a_this_history_ring x_this_history_next x_this_history_count), (a_this_history_ring, .inl (cy 4, 20, .inr (.inr (.inr (.inr (rg_f rq_this_history_ring)))))), (wo_6_iiir (rq_this_history_ring 0) (rD_this_history_ring 0) (rR_this_history_ring 0) (rG_this_history_ring 0) (rr_this_history_ring 0)), (wi_0_6_0 a_this_now_trusts cy g_this_now_trusts), (wi_0_6_0 (rr_this_history_ring 0) cy (rF_this_history_ring 0)), (wo_6_iiir (rq_this_history_ring 1) (rD_this_history_ring 1) (rR_this_history_ring 1) (rG_this_history_ring 1) (rr_this_history_ring 1)), (wi_0_6_0 (rr_this_history_ring 1) cy (rF_this_history_ring 1)), (wo_6_iiir (rq_this_history_ring 2) (rD_this_history_ring 2) (rR_this_history_ring 2) (rG_this_history_ring 2) (rr_this_history_ring 2)), (wi_0_6_0 (rr_this_history_ring 2) cy (rF_this_history_ring 2)), (wo_6_iiir (rq_this_history_ring 3) (rD_this_history_ring 3) (rR_this_history_ring 3) (rG_this_history_ring 3) (rr_this_history_ring 3)), (wi_0_6_0 (rr_this_history_ring 3) cy (rF_this_history_ring 3)), (wo_6_iiir (rq_this_history_ring 4) (rD_this_history_ring 4) (rR_this_history_ring 4) (rG_this_history_ring 4) (rr_this_history_ring 4)), (wi_0_6_0 (rr_this_history_ring 4) cy (rF_this_history_ring 4)), (wo_6_iiir (rq_this_history_ring 5) (rD_this_history_ring 5) (rR_this_history_ring 5) (rG_this_history_ring 5) (rr_this_history_ring 5)), (wi_0_6_0 (rr_this_history_ring 5) cy (rF_this_history_ring 5)), (wo_6_iiir (rq_this_history_ring 6) (rD_this_history_ring 6) (rR_this_history_ring 6) (rG_this_history_ring 6) (rr_this_history_ring 6)), (wi_0_6_0 (rr_this_history_ring 6) cy (rF_this_history_ring 6)), (wo_6_iiir (rq_this_history_ring 7) (rD_this_history_ring 7) (rR_this_history_ring 7) (rG_this_history_ring 7) (rr_this_history_ring 7)), (wi_0_6_0 (rr_this_history_ring 7) cy (rF_this_history_ring 7)), (wo_6_iiir (rq_this_history_ring 8) (rD_this_history_ring 8) (rR_this_history_ring 8) (rG_this_history_ring 8) (rr_this_history_ring 8)), (wi_0_6_0 (rr_this_history_ring 8) cy (rF_this_history_ring 8)), (wo_6_iiir (rq_this_history_ring 9) (rD_this_history_ring 9) (rR_this_history_ring 9) (rG_this_history_ring 9) (rr_this_history_ring 9)), (wi_0_6_0 (rr_this_history_ring 9) cy (rF_this_history_ring 9)), (wo_6_iiir (rq_this_history_ring 10) (rD_this_history_ring 10) (rR_this_history_ring 10) (rG_this_history_ring 10) (rr_this_history_ring 10)), (wi_0_6_0 (rr_this_history_ring 10) cy (rF_this_history_ring 10)), (wo_6_iiir (rq_this_history_ring 11) (rD_this_history_ring 11) (rR_this_history_ring 11) (rG_this_history_ring 11) (rr_this_history_ring 11)), (wi_0_6_0 (rr_this_history_ring 11) cy (rF_this_history_ring 11)), (wo_6_iiir (rq_this_history_ring 12) (rD_this_history_ring 12) (rR_this_history_ring 12) (rG_this_history_ring 12) (rr_this_history_ring 12)), (wi_0_6_0 (rr_this_history_ring 12) cy (rF_this_history_ring 12)), (wo_6_iiir (rq_this_history_ring 13) (rD_this_history_ring 13) (rR_this_history_ring 13) (rG_this_history_ring 13) (rr_this_history_ring 13)), (wi_0_6_0 (rr_this_history_ring 13) cy (rF_this_history_ring 13)), (wo_6_iiir (rq_this_history_ring 14) (rD_this_history_ring 14) (rR_this_history_ring 14) (rG_this_history_ring 14) (rr_this_history_ring 14)), (wi_0_6_0 (rr_this_history_ring 14) cy (rF_this_history_ring 14)), (wo_6_iiir (rq_this_history_ring 15) (rD_this_history_ring 15) (rR_this_history_ring 15) (rG_this_history_ring 15) (rr_this_history_ring 15)), (wi_0_6_0 (rr_this_history_ring 15) cy (rF_this_history_ring 15)), (wo_6_iiir (rq_this_history_ring 16) (rD_this_history_ring 16) (rR_this_history_ring 16) (rG_this_history_ring 16) (rr_this_history_ring 16)), (wi_0_6_0 (rr_this_history_ring 16) cy (rF_this_history_ring 16)), (wo_6_iiir (rq_this_history_ring 17) (rD_this_history_ring 17) (rR_this_history_ring 17) (rG_this_history_ring 17) (rr_this_history_ring 17)), (wi_0_6_0 (rr_this_history_ring 17) cy (rF_this_history_ring 17)), (wo_6_iiir (rq_this_history_ring 18) (rD_this_history_ring 18) (rR_this_history_ring 18) (rG_this_history_ring 18) (rr_this_history_ring 18)), (wi_0_6_0 (rr_this_history_ring 18) cy (rF_this_history_ring 18)), (wo_6_iiir (rq_this_history_ring 19) (rD_this_history_ring 19) (rR_this_history_ring 19) (rG_this_history_ring 19) (rr_this_history_ring 19)), (wi_0_6_0 (rr_this_history_ring 19) cy (rF_this_history_ring 19)), (wo_1_rri a_this_choice a_this_street a_this_choice_table x_this_choice_tableKnown), (wo_0_rrrri a_this_ahead a_this_street a_this_ahead_state a_this_ahead_told a_this_ahead_trusts x_this_ahead_known), (wo_8_rrriiriiiii a_this_watch a_this_street a_this_watch_seenWalker a_this_watch_seenSecond x_this_watch_rows x_this_watch_compared a_this_watch_seconds x_this_watch_found x_this_watch_foundRules x_this_watch_foundGreen x_this_watch_chosen x_this_watch_chosenLeft), (wi_0_6_0 a_this_refusals cy g_this_refusals), (wo_7_rririiiirrrrriiii a_this_street a_this_machine a_this_plan x_this_street_day a_this_street_trusts x_this_street_rule x_this_street_green x_this_street_absent x_this_street_asksReds a_this_street_cars a_this_street_gaps a_this_street_known a_this_street_left a_this_street_leaves x_this_street_pressed x_this_street_crossed x_this_street_went x_this_street_harmed), (wo_3_rr a_this_machine a_this_machine_facts a_this_machine_stack), (wi_0_13_0 a_this_machine_facts cy g_this_machine_facts), (wi_0_6_0 a_this_plan_spans cy g_this_plan_spans), (wi_0_1600_0 a_this_plan_code cy g_this_plan_code), (wi_0_64_0 a_this_machine_stack cy g_this_machine_stack), (wi_0_320_0 a_this_street_cars cy g_this_street_cars), (wi_0_320_0 a_this_street_gaps cy g_this_street_gaps), (wi_0_6_0 a_this_street_trusts cy g_this_street_trusts), (wi_0_3600_0 a_this_street_known cy g_this_street_known), (wi_0_12_0 a_this_plan_kindOf cy g_this_plan_kindOf), (wi_0_200_0 a_this_plan_comers cy g_this_plan_comers), (wi_0_300_0 a_this_street_left cy g_this_street_left), (wi_0_12_0 a_this_street_leaves cy g_this_street_leaves), (wi_0_6_0 a_this_plan_pace cy g_this_plan_pace), (wi_0_12_0 a_this_plan_comesAt cy g_this_plan_comesAt), (wi_0_6_0 a_this_plan_calm cy g_this_plan_calm), (wo_9_rirrrrrrrrrrrirl a_this a_this_tape x_this_tapeSize a_this_plan a_this_spare a_this_now a_this_history a_this_machine a_this_reader a_this_street a_this_choice a_this_ahead a_this_watch a_this_octets x_this_octetCount a_this_refusals x_this_drawn), (wo_4_iiiiiiirrrirrrrrir a_this_plan x_this_plan_cycle x_this_plan_green x_this_plan_rule x_this_plan_least x_this_plan_away x_this_plan_statements x_this_plan_kinds a_this_plan_calm a_this_plan_pace a_this_plan_trusts x_this_plan_walkers a_this_plan_kindOf a_this_plan_comesAt a_this_plan_comers a_this_plan_names a_this_plan_code x_this_plan_size a_this_plan_spans), (wo_6_iiir a_this_now x_this_now_day x_this_now_rule x_this_now_green a_this_now_trusts)] H := hP
  replace hD := k_D hP hD
  obtain ⟨h41, h42, h43, h44⟩ := hw
  replace hq := lf_b1 hq h44
  refine lv_if_ne (tgt := 14) hx hb dX9_days_5 rfl (fun c45 => ?_) (fun c45 => ?_)
  · as_aux_lemma =>
      replace hq := lf_neg hq (lf_ne (lf_rf r39) (lf_lc 0 (0 : Int) rfl) c45)
      have h46 : ib r39 1 1 := ib_w 1 1 (ib_ne_lo 0 h41 rfl c45) rfl
      have h47 : ib x_this_plan_cycle 1 120 := ib_w 1 120 (ib_two hx_this_plan_cycle (h42 c45)) rfl
      have h48 : ib p0 1 30 := ib_w 1 30 (ib_two (ib_any p0) (h43 c45)) rfl
      refine lv_aload_n hx hb dX9_days_14 rfl (lv_at hl 0 rfl) ?_
      refine k_jvm hP hD hS hA [64, 0, 1, 2, 66, 3, 4, 5, 6, 7, 8, 9, 10, 11, 12, 13, 14, 15, 16, 17, 18, 19, 20, 21, 22, 23, 24, 25, 26, 27, 28, 29, 30, 31, 32, 33, 34, 35, 36, 37, 38, 39, 40, 41, 42, 43, 44, 45] [false, false, false, false, false, false, false, false, false, false, false, false, false, false, false, false, false, false, false, false, false, false, false, false, false, false, false, false, false, false, false, false, false, false, false, false, false, false, false, false, false, false, false, false, false, false, true, true, true, true, true, true, true, true, true, true, true, true, true, true, true, true, true, true, false, true] rfl rfl (by decide +kernel) 0 0 (Nat.le_of_ble_eq_true rfl) (Nat.le_of_ble_eq_true rfl) (fun hPc hDc => k_runV (As := []) (rest := []) C0 hZ hS hA (s_X9_act l dC dI cy sq a_this a_this_tape x_this_tapeSize a_this_plan a_this_spare a_this_now x_this_now_day x_this_now_rule x_this_now_green a_this_now_trusts g_this_now_trusts a_this_history a_this_history_ring rq_this_history_ring rr_this_history_ring rD_this_history_ring rR_this_history_ring rG_this_history_ring rF_this_history_ring x_this_history_next x_this_history_count a_this_machine a_this_reader a_this_street a_this_choice a_this_choice_table x_this_choice_tableKnown a_this_ahead a_this_ahead_state a_this_ahead_told a_this_ahead_trusts x_this_ahead_known a_this_watch a_this_watch_seenWalker a_this_watch_seenSecond x_this_watch_rows x_this_watch_compared a_this_watch_seconds x_this_watch_found x_this_watch_foundRules x_this_watch_foundGreen x_this_watch_chosen x_this_watch_chosenLeft a_this_octets x_this_octetCount a_this_refusals x_this_drawn (ib_w 0 19 hx_this_history_next rfl) (ib_w 0 20 hx_this_history_count rfl)) mV_X9_281 hPc hDc rfl rfl rfl hl rfl rfl (Nat.le_of_ble_eq_true rfl) ⟨(Nat.le_of_ble_eq_true rfl), (Nat.le_of_ble_eq_true rfl)⟩ ⟨(Nat.le_of_ble_eq_true rfl), (Nat.le_of_ble_eq_true rfl)⟩ dX9_days_15) (fun u50 H locs hw hP hD hS => ?_)
      obtain ⟨v51, v52, f53, f54, f55, f56⟩ := u50
      try dsimp only at hP hD hw
      replace hP : va_P (dC, dI) vwCl [(wi_0_6_0 a_this_refusals cy g_this_refusals), (wo_7_rririiiirrrrriiii a_this_street a_this_machine a_this_plan x_this_street_day a_this_street_trusts x_this_street_rule x_this_street_green x_this_street_absent x_this_street_asksReds a_this_street_cars a_this_street_gaps a_this_street_known a_this_street_left a_this_street_leaves x_this_street_pressed x_this_street_crossed x_this_street_went x_this_street_harmed), (wo_3_rr a_this_machine a_this_machine_facts a_this_machine_stack), (wi_0_13_0 a_this_machine_facts cy g_this_machine_facts), (wi_0_6_0 a_this_plan_spans cy g_this_plan_spans), (wi_0_1600_0 a_this_plan_code cy g_this_plan_code), (wi_0_64_0 a_this_machine_stack cy g_this_machine_stack), (wi_0_320_0 a_this_street_cars cy g_this_street_cars), (wi_0_320_0 a_this_street_gaps cy g_this_street_gaps), (wi_0_6_0 a_this_street_trusts cy g_this_street_trusts), (wi_0_3600_0 a_this_street_known cy g_this_street_known), (wi_0_12_0 a_this_plan_kindOf cy g_this_plan_kindOf), (wi_0_200_0 a_this_plan_comers cy g_this_plan_comers), (wi_0_300_0 a_this_street_left cy g_this_street_left), (wi_0_12_0 a_this_street_leaves cy g_this_street_leaves), (wi_0_6_0 a_this_plan_pace cy g_this_plan_pace), (wi_0_12_0 a_this_plan_comesAt cy g_this_plan_comesAt), (wi_0_6_0 a_this_plan_calm cy g_this_plan_calm), (wo_4_iiiiiiirrrirrrrrir a_this_plan x_this_plan_cycle x_this_plan_green x_this_plan_rule x_this_plan_least x_this_plan_away x_this_plan_statements x_this_plan_kinds a_this_plan_calm a_this_plan_pace a_this_plan_trusts x_this_plan_walkers a_this_plan_kindOf a_this_plan_comesAt a_this_plan_comers a_this_plan_names a_this_plan_code x_this_plan_size a_this_plan_spans), (wo_9_rirrrrrrrrrrrirl a_this a_this_tape x_this_tapeSize a_this_plan a_this_spare a_this_now a_this_history a_this_machine a_this_reader a_this_street a_this_choice a_this_ahead a_this_watch a_this_octets x_this_octetCount a_this_refusals x_this_drawn), (wo_2_rii a_this_history a_this_history_ring v51 v52), (a_this_history_ring, .inl (cy 4, 20, .inr (.inr (.inr (.inr (rg_f rq_this_history_ring)))))), (wo_6_iiir (rq_this_history_ring 0) (f53 0) (f54 0) (f55 0) (rr_this_history_ring 0)), (wo_6_iiir a_this_now x_this_now_day x_this_now_rule x_this_now_green a_this_now_trusts), (wi_0_6_0 a_this_now_trusts cy g_this_now_trusts), (wi_0_6_0 (rr_this_history_ring 0) cy (f56 0)), (wo_6_iiir (rq_this_history_ring 1) (f53 1) (f54 1) (f55 1) (rr_this_history_ring 1)), (wi_0_6_0 (rr_this_history_ring 1) cy (f56 1)), (wo_6_iiir (rq_this_history_ring 2) (f53 2) (f54 2) (f55 2) (rr_this_history_ring 2)), (wi_0_6_0 (rr_this_history_ring 2) cy (f56 2)), (wo_6_iiir (rq_this_history_ring 3) (f53 3) (f54 3) (f55 3) (rr_this_history_ring 3)), (wi_0_6_0 (rr_this_history_ring 3) cy (f56 3)), (wo_6_iiir (rq_this_history_ring 4) (f53 4) (f54 4) (f55 4) (rr_this_history_ring 4)), (wi_0_6_0 (rr_this_history_ring 4) cy (f56 4)), (wo_6_iiir (rq_this_history_ring 5) (f53 5) (f54 5) (f55 5) (rr_this_history_ring 5)), (wi_0_6_0 (rr_this_history_ring 5) cy (f56 5)), (wo_6_iiir (rq_this_history_ring 6) (f53 6) (f54 6) (f55 6) (rr_this_history_ring 6)), (wi_0_6_0 (rr_this_history_ring 6) cy (f56 6)), (wo_6_iiir (rq_this_history_ring 7) (f53 7) (f54 7) (f55 7) (rr_this_history_ring 7)), (wi_0_6_0 (rr_this_history_ring 7) cy (f56 7)), (wo_6_iiir (rq_this_history_ring 8) (f53 8) (f54 8) (f55 8) (rr_this_history_ring 8)), (wi_0_6_0 (rr_this_history_ring 8) cy (f56 8)), (wo_6_iiir (rq_this_history_ring 9) (f53 9) (f54 9) (f55 9) (rr_this_history_ring 9)), (wi_0_6_0 (rr_this_history_ring 9) cy (f56 9)), (wo_6_iiir (rq_this_history_ring 10) (f53 10) (f54 10) (f55 10) (rr_this_history_ring 10)), (wi_0_6_0 (rr_this_history_ring 10) cy (f56 10)), (wo_6_iiir (rq_this_history_ring 11) (f53 11) (f54 11) (f55 11) (rr_this_history_ring 11)), (wi_0_6_0 (rr_this_history_ring 11) cy (f56 11)), (wo_6_iiir (rq_this_history_ring 12) (f53 12) (f54 12) (f55 12) (rr_this_history_ring 12)), (wi_0_6_0 (rr_this_history_ring 12) cy (f56 12)), (wo_6_iiir (rq_this_history_ring 13) (f53 13) (f54 13) (f55 13) (rr_this_history_ring 13)), (wi_0_6_0 (rr_this_history_ring 13) cy (f56 13)), (wo_6_iiir (rq_this_history_ring 14) (f53 14) (f54 14) (f55 14) (rr_this_history_ring 14)), (wi_0_6_0 (rr_this_history_ring 14) cy (f56 14)), (wo_6_iiir (rq_this_history_ring 15) (f53 15) (f54 15) (f55 15) (rr_this_history_ring 15)), (wi_0_6_0 (rr_this_history_ring 15) cy (f56 15)), (wo_6_iiir (rq_this_history_ring 16) (f53 16) (f54 16) (f55 16) (rr_this_history_ring 16)), (wi_0_6_0 (rr_this_history_ring 16) cy (f56 16)), (wo_6_iiir (rq_this_history_ring 17) (f53 17) (f54 17) (f55 17) (rr_this_history_ring 17)), (wi_0_6_0 (rr_this_history_ring 17) cy (f56 17)), (wo_6_iiir (rq_this_history_ring 18) (f53 18) (f54 18) (f55 18) (rr_this_history_ring 18)), (wi_0_6_0 (rr_this_history_ring 18) cy (f56 18)), (wo_6_iiir (rq_this_history_ring 19) (f53 19) (f54 19) (f55 19) (rr_this_history_ring 19)), (wi_0_6_0 (rr_this_history_ring 19) cy (f56 19)), (wo_1_rri a_this_choice a_this_street a_this_choice_table 0), (wo_0_rrrri a_this_ahead a_this_street a_this_ahead_state a_this_ahead_told a_this_ahead_trusts 0), (wo_8_rrriiriiiii a_this_watch a_this_street a_this_watch_seenWalker a_this_watch_seenSecond x_this_watch_rows 0 a_this_watch_seconds x_this_watch_found x_this_watch_foundRules x_this_watch_foundGreen x_this_watch_chosen x_this_watch_chosenLeft)] H := hP
      replace hD := k_D hP hD
      obtain ⟨h57, h58, h59⟩ := hw
      replace hq := lf_p1 hq h59
      replace hq := lf_p1 hq rfl
      replace hq := lf_p1 hq rfl
      replace hq := lf_p1 hq rfl
      replace hq := lf_p1 hq rfl
      refine lv_iconst (v := 0) hx hb dX9_days_18 rfl ?_
      refine lv_istore_n (lv' := [(2, .int 0), (0, .ref a_this), (1, .int p0)]) hx hb dX9_days_19 rfl hl (Nat.le_of_ble_eq_true rfl) rfl (fun ls hl => ?_)
      refine lv_iconst (v := 0) hx hb dX9_days_20 rfl ?_
      refine lv_istore_n (lv' := [(3, .int 0), (2, .int 0), (0, .ref a_this), (1, .int p0)]) hx hb dX9_days_21 rfl hl (Nat.le_of_ble_eq_true rfl) rfl (fun ls hl => ?_)
      exact jn22 32 v51 v52 f53 f54 f55 f56 0 0 x_this_now_day x_this_street_day x_this_street_rule x_this_street_green x_this_street_absent x_this_street_pressed x_this_street_crossed x_this_street_went x_this_street_harmed g_this_now_trusts g_this_machine_facts g_this_machine_stack g_this_street_cars g_this_street_gaps g_this_street_trusts g_this_street_known g_this_street_left g_this_street_leaves H locs ls (ib_w 1 30 h48 rfl) (ib_w 1 120 h47 rfl) (ib_w 0 19 h57 rfl) (ib_w 1 20 h58 rfl) (ib_w 0 30 (ib_c 0 0 0 rfl) rfl) (by try simp only [show (0 : Int32).toInt = (0 : Int) from rfl]; exact hq) (by have := (ib_c 0 0 0 rfl); unfold ib at this; omega) (hP.sub [19, 18, 23, 20, 21, 22, 24, 25, 26, 27, 28, 29, 30, 31, 32, 33, 34, 35, 36, 37, 38, 39, 40, 41, 42, 43, 44, 45, 46, 47, 48, 49, 50, 51, 52, 53, 54, 55, 56, 57, 58, 59, 60, 61, 62, 63, 64, 65, 66, 0, 1, 2, 3, 4, 5, 6, 7, 8, 9, 10, 11, 12, 13, 14, 15, 16, 17] rfl) (hD.sub [19, 18, 23, 20, 21, 22, 24, 25, 26, 27, 28, 29, 30, 31, 32, 33, 34, 35, 36, 37, 38, 39, 40, 41, 42, 43, 44, 45, 46, 47, 48, 49, 50, 51, 52, 53, 54, 55, 56, 57, 58, 59, 60, 61, 62, 63, 64, 65, 66, 0, 1, 2, 3, 4, 5, 6, 7, 8, 9, 10, 11, 12, 13, 14, 15, 16, 17] (by decide +kernel) rfl) hS (lv_sub hl [2, 3, 1, 0] rfl)
  · replace hq := lf_pos hq (lf_eq (lf_rf r39) (lf_lc 0 (0 : Int) rfl) c45)
    have h60 := ib_eq h41 (ib_c 0 0 0 rfl) c45
    have h61 : ib r39 0 0 := ib_w 0 0 h60.1 rfl
    refine lv_aload_n hx hb dX9_days_8 rfl (lv_at hl 0 rfl) ?_
    refine lv_iconst (v := 3) hx hb dX9_days_9 rfl ?_
    refine k_jim hP hD hS hA [64, 46] [true, true, true, true, true, true, true, true, true, true, true, true, true, true, true, true, true, true, true, true, true, true, true, true, true, true, true, true, true, true, true, true, true, true, true, true, true, true, true, true, true, true, true, true, true, true, false, true, true, true, true, true, true, true, true, true, true, true, true, true, true, true, true, true, false, true, true] rfl rfl (by decide +kernel) 0 0 (Nat.le_of_ble_eq_true rfl) (Nat.le_of_ble_eq_true rfl) (fun hPc hDc => k_runV (As := [.int 3]) (rest := []) C0 hZ hS hA (s_X9_refuse l dC dI cy sq a_this a_this_tape x_this_tapeSize a_this_plan a_this_spare a_this_now a_this_history a_this_machine a_this_reader a_this_street a_this_choice a_this_ahead a_this_watch a_this_octets x_this_octetCount a_this_refusals g_this_refusals x_this_drawn 3 (ib_w 0 5 (ib_c 3 3 3 rfl) rfl)) mV_X9_102 hPc hDc rfl rfl rfl hl rfl rfl (Nat.le_of_ble_eq_true rfl) ⟨(Nat.le_of_ble_eq_true rfl), (Nat.le_of_ble_eq_true rfl)⟩ ⟨(Nat.le_of_ble_eq_true rfl), (Nat.le_of_ble_eq_true rfl)⟩ dX9_days_10) (fun r62 u63 H locs hw hP hD hS => ?_)
    obtain ⟨f64, ef64⟩ : ∃ z, z = u63 := ⟨_, rfl⟩; subst ef64
    try dsimp only at hP hD hw
    replace hP : va_P (dC, dI) vwCl [(wo_2_rii a_this_history a_this_history_ring x_this_history_next x_this_history_count), (a_this_history_ring, .inl (cy 4, 20, .inr (.inr (.inr (.inr (rg_f rq_this_history_ring)))))), (wo_6_iiir (rq_this_history_ring 0) (rD_this_history_ring 0) (rR_this_history_ring 0) (rG_this_history_ring 0) (rr_this_history_ring 0)), (wi_0_6_0 a_this_now_trusts cy g_this_now_trusts), (wi_0_6_0 (rr_this_history_ring 0) cy (rF_this_history_ring 0)), (wo_6_iiir (rq_this_history_ring 1) (rD_this_history_ring 1) (rR_this_history_ring 1) (rG_this_history_ring 1) (rr_this_history_ring 1)), (wi_0_6_0 (rr_this_history_ring 1) cy (rF_this_history_ring 1)), (wo_6_iiir (rq_this_history_ring 2) (rD_this_history_ring 2) (rR_this_history_ring 2) (rG_this_history_ring 2) (rr_this_history_ring 2)), (wi_0_6_0 (rr_this_history_ring 2) cy (rF_this_history_ring 2)), (wo_6_iiir (rq_this_history_ring 3) (rD_this_history_ring 3) (rR_this_history_ring 3) (rG_this_history_ring 3) (rr_this_history_ring 3)), (wi_0_6_0 (rr_this_history_ring 3) cy (rF_this_history_ring 3)), (wo_6_iiir (rq_this_history_ring 4) (rD_this_history_ring 4) (rR_this_history_ring 4) (rG_this_history_ring 4) (rr_this_history_ring 4)), (wi_0_6_0 (rr_this_history_ring 4) cy (rF_this_history_ring 4)), (wo_6_iiir (rq_this_history_ring 5) (rD_this_history_ring 5) (rR_this_history_ring 5) (rG_this_history_ring 5) (rr_this_history_ring 5)), (wi_0_6_0 (rr_this_history_ring 5) cy (rF_this_history_ring 5)), (wo_6_iiir (rq_this_history_ring 6) (rD_this_history_ring 6) (rR_this_history_ring 6) (rG_this_history_ring 6) (rr_this_history_ring 6)), (wi_0_6_0 (rr_this_history_ring 6) cy (rF_this_history_ring 6)), (wo_6_iiir (rq_this_history_ring 7) (rD_this_history_ring 7) (rR_this_history_ring 7) (rG_this_history_ring 7) (rr_this_history_ring 7)), (wi_0_6_0 (rr_this_history_ring 7) cy (rF_this_history_ring 7)), (wo_6_iiir (rq_this_history_ring 8) (rD_this_history_ring 8) (rR_this_history_ring 8) (rG_this_history_ring 8) (rr_this_history_ring 8)), (wi_0_6_0 (rr_this_history_ring 8) cy (rF_this_history_ring 8)), (wo_6_iiir (rq_this_history_ring 9) (rD_this_history_ring 9) (rR_this_history_ring 9) (rG_this_history_ring 9) (rr_this_history_ring 9)), (wi_0_6_0 (rr_this_history_ring 9) cy (rF_this_history_ring 9)), (wo_6_iiir (rq_this_history_ring 10) (rD_this_history_ring 10) (rR_this_history_ring 10) (rG_this_history_ring 10) (rr_this_history_ring 10)), (wi_0_6_0 (rr_this_history_ring 10) cy (rF_this_history_ring 10)), (wo_6_iiir (rq_this_history_ring 11) (rD_this_history_ring 11) (rR_this_history_ring 11) (rG_this_history_ring 11) (rr_this_history_ring 11)), (wi_0_6_0 (rr_this_history_ring 11) cy (rF_this_history_ring 11)), (wo_6_iiir (rq_this_history_ring 12) (rD_this_history_ring 12) (rR_this_history_ring 12) (rG_this_history_ring 12) (rr_this_history_ring 12)), (wi_0_6_0 (rr_this_history_ring 12) cy (rF_this_history_ring 12)), (wo_6_iiir (rq_this_history_ring 13) (rD_this_history_ring 13) (rR_this_history_ring 13) (rG_this_history_ring 13) (rr_this_history_ring 13)), (wi_0_6_0 (rr_this_history_ring 13) cy (rF_this_history_ring 13)), (wo_6_iiir (rq_this_history_ring 14) (rD_this_history_ring 14) (rR_this_history_ring 14) (rG_this_history_ring 14) (rr_this_history_ring 14)), (wi_0_6_0 (rr_this_history_ring 14) cy (rF_this_history_ring 14)), (wo_6_iiir (rq_this_history_ring 15) (rD_this_history_ring 15) (rR_this_history_ring 15) (rG_this_history_ring 15) (rr_this_history_ring 15)), (wi_0_6_0 (rr_this_history_ring 15) cy (rF_this_history_ring 15)), (wo_6_iiir (rq_this_history_ring 16) (rD_this_history_ring 16) (rR_this_history_ring 16) (rG_this_history_ring 16) (rr_this_history_ring 16)), (wi_0_6_0 (rr_this_history_ring 16) cy (rF_this_history_ring 16)), (wo_6_iiir (rq_this_history_ring 17) (rD_this_history_ring 17) (rR_this_history_ring 17) (rG_this_history_ring 17) (rr_this_history_ring 17)), (wi_0_6_0 (rr_this_history_ring 17) cy (rF_this_history_ring 17)), (wo_6_iiir (rq_this_history_ring 18) (rD_this_history_ring 18) (rR_this_history_ring 18) (rG_this_history_ring 18) (rr_this_history_ring 18)), (wi_0_6_0 (rr_this_history_ring 18) cy (rF_this_history_ring 18)), (wo_6_iiir (rq_this_history_ring 19) (rD_this_history_ring 19) (rR_this_history_ring 19) (rG_this_history_ring 19) (rr_this_history_ring 19)), (wi_0_6_0 (rr_this_history_ring 19) cy (rF_this_history_ring 19)), (wo_1_rri a_this_choice a_this_street a_this_choice_table x_this_choice_tableKnown), (wo_0_rrrri a_this_ahead a_this_street a_this_ahead_state a_this_ahead_told a_this_ahead_trusts x_this_ahead_known), (wo_8_rrriiriiiii a_this_watch a_this_street a_this_watch_seenWalker a_this_watch_seenSecond x_this_watch_rows x_this_watch_compared a_this_watch_seconds x_this_watch_found x_this_watch_foundRules x_this_watch_foundGreen x_this_watch_chosen x_this_watch_chosenLeft), (wo_7_rririiiirrrrriiii a_this_street a_this_machine a_this_plan x_this_street_day a_this_street_trusts x_this_street_rule x_this_street_green x_this_street_absent x_this_street_asksReds a_this_street_cars a_this_street_gaps a_this_street_known a_this_street_left a_this_street_leaves x_this_street_pressed x_this_street_crossed x_this_street_went x_this_street_harmed), (wo_3_rr a_this_machine a_this_machine_facts a_this_machine_stack), (wi_0_13_0 a_this_machine_facts cy g_this_machine_facts), (wi_0_6_0 a_this_plan_spans cy g_this_plan_spans), (wi_0_1600_0 a_this_plan_code cy g_this_plan_code), (wi_0_64_0 a_this_machine_stack cy g_this_machine_stack), (wi_0_320_0 a_this_street_cars cy g_this_street_cars), (wi_0_320_0 a_this_street_gaps cy g_this_street_gaps), (wi_0_6_0 a_this_street_trusts cy g_this_street_trusts), (wi_0_3600_0 a_this_street_known cy g_this_street_known), (wi_0_12_0 a_this_plan_kindOf cy g_this_plan_kindOf), (wi_0_200_0 a_this_plan_comers cy g_this_plan_comers), (wi_0_300_0 a_this_street_left cy g_this_street_left), (wi_0_12_0 a_this_street_leaves cy g_this_street_leaves), (wi_0_6_0 a_this_plan_pace cy g_this_plan_pace), (wi_0_12_0 a_this_plan_comesAt cy g_this_plan_comesAt), (wi_0_6_0 a_this_plan_calm cy g_this_plan_calm), (wo_4_iiiiiiirrrirrrrrir a_this_plan x_this_plan_cycle x_this_plan_green x_this_plan_rule x_this_plan_least x_this_plan_away x_this_plan_statements x_this_plan_kinds a_this_plan_calm a_this_plan_pace a_this_plan_trusts x_this_plan_walkers a_this_plan_kindOf a_this_plan_comesAt a_this_plan_comers a_this_plan_names a_this_plan_code x_this_plan_size a_this_plan_spans), (wo_6_iiir a_this_now x_this_now_day x_this_now_rule x_this_now_green a_this_now_trusts), (wo_9_rirrrrrrrrrrrirl a_this a_this_tape x_this_tapeSize a_this_plan a_this_spare a_this_now a_this_history a_this_machine a_this_reader a_this_street a_this_choice a_this_ahead a_this_watch a_this_octets x_this_octetCount a_this_refusals x_this_drawn), (wi_0_6_0 a_this_refusals cy f64)] H := hP
    replace hD := k_D hP hD
    obtain ⟨h65, h66⟩ := hw
    have h66 := by have h9 := h66; try simp only [show (3 : Int32).toInt = (3 : Int) from rfl] at h9; exact h9
    replace hq := lf_p1 hq h66
    subst hQ; exact k_iret hx hb hr hlk rfl ((x_this_now_day, x_this_history_next, x_this_history_count, g_this_now_trusts, x_this_choice_tableKnown, x_this_ahead_known, x_this_watch_compared, f64, x_this_street_day, x_this_street_rule, x_this_street_green, x_this_street_absent, x_this_street_pressed, x_this_street_crossed, x_this_street_went, x_this_street_harmed, g_this_machine_facts, g_this_machine_stack, g_this_street_cars, g_this_street_gaps, g_this_street_trusts, g_this_street_known, g_this_street_left, g_this_street_leaves, rD_this_history_ring, rR_this_history_ring, rG_this_history_ring, rF_this_history_ring)) hS ⟨ib_w 0 19 hx_this_history_next rfl, ib_w 0 20 hx_this_history_count rfl, ib_w 0 1 hx_this_choice_tableKnown rfl, ib_w 0 30 hx_this_ahead_known rfl, ib_w 0 1 hx_this_watch_compared rfl, (hO.symm.trans (by exact hq))⟩ (hP.sub [65, 63, 64, 0, 1, 2, 3, 4, 5, 6, 7, 8, 9, 10, 11, 12, 13, 14, 15, 16, 17, 18, 19, 20, 21, 22, 23, 24, 25, 26, 27, 28, 29, 30, 31, 32, 33, 34, 35, 36, 37, 38, 39, 40, 41, 42, 43, 44, 45, 66, 46, 47, 48, 49, 50, 51, 52, 53, 54, 55, 56, 57, 58, 59, 60, 61, 62] rfl) (hD.sub [65, 63, 64, 0, 1, 2, 3, 4, 5, 6, 7, 8, 9, 10, 11, 12, 13, 14, 15, 16, 17, 18, 19, 20, 21, 22, 23, 24, 25, 26, 27, 28, 29, 30, 31, 32, 33, 34, 35, 36, 37, 38, 39, 40, 41, 42, 43, 44, 45, 66, 46, 47, 48, 49, 50, 51, 52, 53, 54, 55, 56, 57, 58, 59, 60, 61, 62] (by decide +kernel) rfl) (Nat.le_of_ble_eq_true rfl) (Nat.le_of_ble_eq_true rfl) dX9_days_13
set_option maxHeartbeats 4000000 in
set_option maxRecDepth 100000 in
theorem s_X9_deny (l : Launch) (dC : Nat → ClassId) (dI : Nat → Nat → Nat) (cy : Nat → ClassId) (sq : Nat → Nat) (a_this : Nat) (a_this_tape : Nat) (x_this_tapeSize : Int32) (a_this_plan : Nat) (a_this_spare : Nat) (a_this_now : Nat) (a_this_history : Nat) (a_this_machine : Nat) (a_this_reader : Nat) (a_this_street : Nat) (a_this_choice : Nat) (a_this_ahead : Nat) (a_this_watch : Nat) (a_this_octets : Nat) (x_this_octetCount : Int32) (a_this_refusals : Nat) (g_this_refusals : Nat → Int32) (x_this_drawn : Int64) (p0 : Int32) (hp0 : ib p0 0 5) : k_Met l yX9_deny cX9_deny 2 (some .boolean) { frames := 0, cells := 0, slots := 0, locals := 0 } dC dI cy sq [.ref a_this, .int p0] [(wo_9_rirrrrrrrrrrrirl a_this a_this_tape x_this_tapeSize a_this_plan a_this_spare a_this_now a_this_history a_this_machine a_this_reader a_this_street a_this_choice a_this_ahead a_this_watch a_this_octets x_this_octetCount a_this_refusals x_this_drawn), (wi_0_6_0 a_this_refusals cy g_this_refusals)] (k_Qi dC dI (fun (r : Int32) (n0 : (Nat → Int32)) => ib r 0 0 ∧ (F_X9_deny (lf_A g_this_refusals) (Int32.toInt p0) = ((Int32.toInt r), (lf_A n0)))) (fun n0 : (Nat → Int32) => [(wo_9_rirrrrrrrrrrrirl a_this a_this_tape x_this_tapeSize a_this_plan a_this_spare a_this_now a_this_history a_this_machine a_this_reader a_this_street a_this_choice a_this_ahead a_this_watch a_this_octets x_this_octetCount a_this_refusals x_this_drawn), (wi_0_6_0 a_this_refusals cy n0)])) := by
  refine k_ofW2 (by decide +kernel) (Nat.le_of_ble_eq_true rfl) ?_
  intro p e s m below meth c A ls H locs args Q hQ C0 hZ hr hlk hin hP hD hA hS hl
  have C0 : k_cx p s m args c cX9_deny 2 RX9 dC dI cy sq := C0
  have hx := C0.1
  have hb := C0.2.1
  have hl : lv_has ls 2 [(0, .ref a_this), (1, .int p0)] := hl
  obtain ⟨O, hO⟩ : ∃ o, o = F_X9_deny (lf_A g_this_refusals) (Int32.toInt p0) := ⟨_, rfl⟩
  have hq := hO
  unfold F_X9_deny at hq
  refine lv_aload_n hx hb dX9_deny_0 rfl (lv_at hl 0 rfl) ?_
  refine k_get C0 fg_X9_95 hP 0 rfl rfl dX9_deny_1 ?_
  refine lv_iload_n hx hb dX9_deny_4 rfl (lv_at hl 1 rfl) ?_
  refine lv_dup2_11 hx hb dX9_deny_5 rfl rfl ?_
  refine va_iald hx hb C0.2.2.2.2.2.1 hP 1 0 rfl rfl (ib_in 6 hp0 rfl) dX9_deny_6 ?_
  refine lv_topi (fun z1 ez1 => ?_)
  have Ez1 := lf_ld ez1 (lf_ra g_this_refusals) (lf_rf p0)
  refine lv_iconst (v := 1) hx hb dX9_deny_7 rfl ?_
  refine lv_iadd hx hb dX9_deny_8 ?_
  refine lv_topi (fun z2 ez2 => ?_)
  have Ez2 := lf_op lf_iadd ez2 Ez1 (lf_lc 1 (1 : Int) rfl)
  refine va_iast hx hb C0.2.2.2.2.2.1 hP hD hS 1 0 rfl rfl (ib_in 6 hp0 rfl) dX9_deny_9 (fun H locs hP hD hS => ?_)
  replace hP : va_P (dC, dI) vwCl [(wo_9_rirrrrrrrrrrrirl a_this a_this_tape x_this_tapeSize a_this_plan a_this_spare a_this_now a_this_history a_this_machine a_this_reader a_this_street a_this_choice a_this_ahead a_this_watch a_this_octets x_this_octetCount a_this_refusals x_this_drawn), (wi_0_6_0 a_this_refusals cy (upd g_this_refusals (Int32.toNatClampNeg p0) z2))] H := hP
  replace hD := k_D hP hD
  generalize ef3 : upd g_this_refusals (Int32.toNatClampNeg p0) z2 = f3 at hP hD
  have Ef3 := lf_st ef3 (lf_ra g_this_refusals) (lf_rf p0) Ez2
  refine lv_iconst (v := 0) hx hb dX9_deny_10 rfl ?_
  subst hQ; exact k_iret hx hb hr hlk (k_nb 0 rfl) f3 hS ⟨ib_w 0 0 (ib_c 0 0 0 rfl) rfl, (hO.symm.trans (by try simp only [show (0 : Int32).toInt = (0 : Int) from rfl]; rw [lf_ua Ef3]; exact hq))⟩ hP hD (Nat.le_of_ble_eq_true rfl) (Nat.le_of_ble_eq_true rfl) dX9_deny_11
set_option maxHeartbeats 4000000 in
set_option maxRecDepth 100000 in
theorem s_X9_isKind (l : Launch) (dC : Nat → ClassId) (dI : Nat → Nat → Nat) (cy : Nat → ClassId) (sq : Nat → Nat) (a_this : Nat) (a_this_tape : Nat) (x_this_tapeSize : Int32) (a_this_plan : Nat) (x_this_plan_cycle : Int32) (x_this_plan_green : Int32) (x_this_plan_rule : Int32) (x_this_plan_least : Int32) (x_this_plan_away : Int32) (x_this_plan_statements : Int32) (x_this_plan_kinds : Int32) (a_this_plan_calm : Nat) (a_this_plan_pace : Nat) (a_this_plan_trusts : Nat) (x_this_plan_walkers : Int32) (a_this_plan_kindOf : Nat) (a_this_plan_comesAt : Nat) (a_this_plan_comers : Nat) (a_this_plan_names : Nat) (a_this_plan_code : Nat) (x_this_plan_size : Int32) (a_this_plan_spans : Nat) (a_this_spare : Nat) (a_this_now : Nat) (a_this_history : Nat) (a_this_machine : Nat) (a_this_reader : Nat) (a_this_street : Nat) (a_this_choice : Nat) (a_this_ahead : Nat) (a_this_watch : Nat) (a_this_octets : Nat) (x_this_octetCount : Int32) (a_this_refusals : Nat) (x_this_drawn : Int64) (p0 : Int32) (hx_this_plan_kinds : ib x_this_plan_kinds 0 6) : k_Met l yX9_isKind cX9_isKind 2 (some .boolean) { frames := 0, cells := 0, slots := 0, locals := 0 } dC dI cy sq [.ref a_this, .int p0] [(wo_9_rirrrrrrrrrrrirl a_this a_this_tape x_this_tapeSize a_this_plan a_this_spare a_this_now a_this_history a_this_machine a_this_reader a_this_street a_this_choice a_this_ahead a_this_watch a_this_octets x_this_octetCount a_this_refusals x_this_drawn), (wo_4_iiiiiiirrrirrrrrir a_this_plan x_this_plan_cycle x_this_plan_green x_this_plan_rule x_this_plan_least x_this_plan_away x_this_plan_statements x_this_plan_kinds a_this_plan_calm a_this_plan_pace a_this_plan_trusts x_this_plan_walkers a_this_plan_kindOf a_this_plan_comesAt a_this_plan_comers a_this_plan_names a_this_plan_code x_this_plan_size a_this_plan_spans)] (k_Qi dC dI (fun (r : Int32) (_ : Unit) => ib r 0 1 ∧ (¬ r = 0 → ib x_this_plan_kinds 1 6) ∧ (¬ r = 0 → ib p0 0 5) ∧ (F_X9_isKind (Int32.toInt x_this_plan_kinds) (Int32.toInt p0) = ((Int32.toInt r)))) (fun _ : Unit => [(wo_9_rirrrrrrrrrrrirl a_this a_this_tape x_this_tapeSize a_this_plan a_this_spare a_this_now a_this_history a_this_machine a_this_reader a_this_street a_this_choice a_this_ahead a_this_watch a_this_octets x_this_octetCount a_this_refusals x_this_drawn), (wo_4_iiiiiiirrrirrrrrir a_this_plan x_this_plan_cycle x_this_plan_green x_this_plan_rule x_this_plan_least x_this_plan_away x_this_plan_statements x_this_plan_kinds a_this_plan_calm a_this_plan_pace a_this_plan_trusts x_this_plan_walkers a_this_plan_kindOf a_this_plan_comesAt a_this_plan_comers a_this_plan_names a_this_plan_code x_this_plan_size a_this_plan_spans)])) := by
  refine k_ofW2 (by decide +kernel) (Nat.le_of_ble_eq_true rfl) ?_
  intro p e s m below meth c A ls H locs args Q hQ C0 hZ hr hlk hin hP hD hA hS hl
  have C0 : k_cx p s m args c cX9_isKind 2 RX9 dC dI cy sq := C0
  have hx := C0.1
  have hb := C0.2.1
  have hl : lv_has ls 2 [(0, .ref a_this), (1, .int p0)] := hl
  obtain ⟨O, hO⟩ : ∃ o, o = F_X9_isKind (Int32.toInt x_this_plan_kinds) (Int32.toInt p0) := ⟨_, rfl⟩
  have hq := hO
  unfold F_X9_isKind at hq
  have jn19 : ∀  (H : Heap) (locs : List Loc) (ls : Array Slot), (O = F_X9_isKind_19 ) → va_P (dC, dI) vwCl [(wo_9_rirrrrrrrrrrrirl a_this a_this_tape x_this_tapeSize a_this_plan a_this_spare a_this_now a_this_history a_this_machine a_this_reader a_this_street a_this_choice a_this_ahead a_this_watch a_this_octets x_this_octetCount a_this_refusals x_this_drawn), (wo_4_iiiiiiirrrirrrrrir a_this_plan x_this_plan_cycle x_this_plan_green x_this_plan_rule x_this_plan_least x_this_plan_away x_this_plan_statements x_this_plan_kinds a_this_plan_calm a_this_plan_pace a_this_plan_trusts x_this_plan_walkers a_this_plan_kindOf a_this_plan_comesAt a_this_plan_comers a_this_plan_names a_this_plan_code x_this_plan_size a_this_plan_spans)] H → va_D A [(wo_9_rirrrrrrrrrrrirl a_this a_this_tape x_this_tapeSize a_this_plan a_this_spare a_this_now a_this_history a_this_machine a_this_reader a_this_street a_this_choice a_this_ahead a_this_watch a_this_octets x_this_octetCount a_this_refusals x_this_drawn), (wo_4_iiiiiiirrrirrrrrir a_this_plan x_this_plan_cycle x_this_plan_green x_this_plan_rule x_this_plan_least x_this_plan_away x_this_plan_statements x_this_plan_kinds a_this_plan_calm a_this_plan_pace a_this_plan_trusts x_this_plan_walkers a_this_plan_kindOf a_this_plan_comesAt a_this_plan_comers a_this_plan_names a_this_plan_code x_this_plan_size a_this_plan_spans)] → va_S A s.heap H locs → lv_has ls 2 [(0, .ref a_this), (1, .int p0)] → W p l e { frames := 0, cells := 0, slots := 0, locals := 0 } s m args below meth c H locs 0 0 Q (F0 m 19 ls []) := by
    intro H locs ls hq hP hD hS hl
    unfold F_X9_isKind_19 at hq
    refine lv_iconst (v := 0) hx hb dX9_isKind_19 rfl ?_
    subst hQ; exact k_iret hx hb hr hlk (k_nb 0 rfl) () hS ⟨ib_w 0 1 (ib_c 0 0 0 rfl) rfl, fun hq9 => absurd rfl hq9, fun hq9 => absurd rfl hq9, (hO.symm.trans (by try simp only [show (0 : Int32).toInt = (0 : Int) from rfl]; exact hq))⟩ hP hD (Nat.le_of_ble_eq_true rfl) (Nat.le_of_ble_eq_true rfl) dX9_isKind_20
  refine lv_iload_n hx hb dX9_isKind_0 rfl (lv_at hl 1 rfl) ?_
  refine lv_if_lt (tgt := 19) hx hb dX9_isKind_1 rfl (fun c1 => ?_) (fun c1 => ?_)
  · replace hq := lf_pos hq (lf_lt (lf_rf p0) (lf_lc 0 (0 : Int) rfl) c1)
    have h2 := ib_lt (ib_any p0) (ib_c 0 0 0 rfl) c1
    have h3 : ib p0 (-2147483648) (-1) := ib_w (-2147483648) (-1) h2.1 rfl
    exact jn19  H locs ls (by exact hq) hP hD hS (lv_sub hl [0, 1] rfl)
  · replace hq := lf_neg hq (lf_nlt (lf_rf p0) (lf_lc 0 (0 : Int) rfl) c1)
    have h4 := ib_nlt (ib_any p0) (ib_c 0 0 0 rfl) c1
    have h5 : ib p0 0 2147483647 := ib_w 0 2147483647 h4.1 rfl
    refine lv_iload_n hx hb dX9_isKind_4 rfl (lv_at hl 1 rfl) ?_
    refine lv_aload_n hx hb dX9_isKind_5 rfl (lv_at hl 0 rfl) ?_
    refine k_get C0 fg_X9_20 hP 0 rfl rfl dX9_isKind_6 ?_
    refine k_get C0 fg_X9_148 hP 1 rfl rfl dX9_isKind_9 ?_
    refine lv_icmp_ge (tgt := 19) hx hb dX9_isKind_12 rfl (fun c6 => ?_) (fun c6 => ?_)
    · replace hq := lf_pos hq (lf_le (lf_rf x_this_plan_kinds) (lf_rf p0) c6)
      have h7 := ib_le hx_this_plan_kinds h5 c6
      exact jn19  H locs ls (by exact hq) hP hD hS (lv_sub hl [0, 1] rfl)
    · replace hq := lf_neg hq (lf_nle (lf_rf x_this_plan_kinds) (lf_rf p0) c6)
      have h8 := ib_nle hx_this_plan_kinds h5 c6
      have h9 : ib x_this_plan_kinds 1 6 := ib_w 1 6 h8.1 rfl
      have h10 : ib p0 0 5 := ib_w 0 5 h8.2 rfl
      refine lv_iconst (v := 1) hx hb dX9_isKind_15 rfl ?_
      refine lv_goto (tgt := 20) hx hb dX9_isKind_16 rfl ?_
      subst hQ; exact k_iret hx hb hr hlk (k_nb 1 rfl) () hS ⟨ib_w 0 1 (ib_c 1 1 1 rfl) rfl, fun _ => ib_w 1 6 h9 rfl, fun _ => ib_w 0 5 h10 rfl, (hO.symm.trans (by try simp only [show (1 : Int32).toInt = (1 : Int) from rfl]; exact hq))⟩ hP hD (Nat.le_of_ble_eq_true rfl) (Nat.le_of_ble_eq_true rfl) dX9_isKind_20
set_option maxHeartbeats 4000000 in
set_option maxRecDepth 100000 in
theorem s_X9_doubts (l : Launch) (dC : Nat → ClassId) (dI : Nat → Nat → Nat) (cy : Nat → ClassId) (sq : Nat → Nat) (a_this : Nat) (a_this_tape : Nat) (x_this_tapeSize : Int32) (a_this_plan : Nat) (x_this_plan_cycle : Int32) (x_this_plan_green : Int32) (x_this_plan_rule : Int32) (x_this_plan_least : Int32) (x_this_plan_away : Int32) (x_this_plan_statements : Int32) (x_this_plan_kinds : Int32) (a_this_plan_calm : Nat) (g_this_plan_calm : Nat → Int32) (a_this_plan_pace : Nat) (g_this_plan_pace : Nat → Int32) (a_this_plan_trusts : Nat) (x_this_plan_walkers : Int32) (a_this_plan_kindOf : Nat) (g_this_plan_kindOf : Nat → Int32) (a_this_plan_comesAt : Nat) (g_this_plan_comesAt : Nat → Int32) (a_this_plan_comers : Nat) (g_this_plan_comers : Nat → Int32) (a_this_plan_names : Nat) (a_this_plan_code : Nat) (g_this_plan_code : Nat → Int32) (x_this_plan_size : Int32) (a_this_plan_spans : Nat) (g_this_plan_spans : Nat → Int32) (a_this_spare : Nat) (a_this_now : Nat) (x_this_now_day : Int32) (x_this_now_rule : Int32) (x_this_now_green : Int32) (a_this_now_trusts : Nat) (g_this_now_trusts : Nat → Int32) (a_this_history : Nat) (a_this_machine : Nat) (a_this_machine_facts : Nat) (g_this_machine_facts : Nat → Int32) (a_this_machine_stack : Nat) (g_this_machine_stack : Nat → Int32) (a_this_reader : Nat) (a_this_street : Nat) (x_this_street_day : Int32) (a_this_street_trusts : Nat) (g_this_street_trusts : Nat → Int32) (x_this_street_rule : Int32) (x_this_street_green : Int32) (x_this_street_absent : Int32) (x_this_street_asksReds : Int32) (a_this_street_cars : Nat) (g_this_street_cars : Nat → Int32) (a_this_street_gaps : Nat) (g_this_street_gaps : Nat → Int32) (a_this_street_known : Nat) (g_this_street_known : Nat → Int32) (a_this_street_left : Nat) (g_this_street_left : Nat → Int32) (a_this_street_leaves : Nat) (g_this_street_leaves : Nat → Int32) (x_this_street_pressed : Int32) (x_this_street_crossed : Int32) (x_this_street_went : Int32) (x_this_street_harmed : Int32) (a_this_choice : Nat) (a_this_ahead : Nat) (a_this_ahead_state : Nat) (x_this_ahead_state_day : Int32) (x_this_ahead_state_rule : Int32) (x_this_ahead_state_green : Int32) (a_this_ahead_state_trusts : Nat) (g_this_ahead_state_trusts : Nat → Int32) (a_this_ahead_told : Nat) (g_this_ahead_told : Nat → Int32) (a_this_ahead_trusts : Nat) (g_this_ahead_trusts : Nat → Int32) (x_this_ahead_known : Int32) (a_this_watch : Nat) (a_this_octets : Nat) (x_this_octetCount : Int32) (a_this_refusals : Nat) (x_this_drawn : Int64) (p0 : Int32) (hx_this_plan_cycle : ib x_this_plan_cycle 0 120) (hx_this_plan_least : ib x_this_plan_least 0 99) (hx_this_plan_kinds : ib x_this_plan_kinds 0 6) (hx_this_plan_walkers : ib x_this_plan_walkers 0 12) (hg_this_plan_kindOf : ia g_this_plan_kindOf 12 0 5) (hg_this_plan_comesAt : ia g_this_plan_comesAt 12 0 199) (hg_this_plan_spans : ia g_this_plan_spans 6 0 1600) (hx_this_street_asksReds : ib x_this_street_asksReds 0 1) (hx_this_ahead_known : ib x_this_ahead_known 0 30) : k_Met l yX9_doubts cX9_doubts 4 (some .int) { frames := 7, cells := 0, slots := 0, locals := 172 } dC dI cy sq [.ref a_this, .int p0] [(wo_9_rirrrrrrrrrrrirl a_this a_this_tape x_this_tapeSize a_this_plan a_this_spare a_this_now a_this_history a_this_machine a_this_reader a_this_street a_this_choice a_this_ahead a_this_watch a_this_octets x_this_octetCount a_this_refusals x_this_drawn), (wo_4_iiiiiiirrrirrrrrir a_this_plan x_this_plan_cycle x_this_plan_green x_this_plan_rule x_this_plan_least x_this_plan_away x_this_plan_statements x_this_plan_kinds a_this_plan_calm a_this_plan_pace a_this_plan_trusts x_this_plan_walkers a_this_plan_kindOf a_this_plan_comesAt a_this_plan_comers a_this_plan_names a_this_plan_code x_this_plan_size a_this_plan_spans), (wo_6_iiir a_this_now x_this_now_day x_this_now_rule x_this_now_green a_this_now_trusts), (wi_0_6_0 a_this_now_trusts cy g_this_now_trusts), (wo_0_rrrri a_this_ahead a_this_street a_this_ahead_state a_this_ahead_told a_this_ahead_trusts x_this_ahead_known), (wo_6_iiir a_this_ahead_state x_this_ahead_state_day x_this_ahead_state_rule x_this_ahead_state_green a_this_ahead_state_trusts), (wi_0_6_0 a_this_ahead_state_trusts cy g_this_ahead_state_trusts), (wo_7_rririiiirrrrriiii a_this_street a_this_machine a_this_plan x_this_street_day a_this_street_trusts x_this_street_rule x_this_street_green x_this_street_absent x_this_street_asksReds a_this_street_cars a_this_street_gaps a_this_street_known a_this_street_left a_this_street_leaves x_this_street_pressed x_this_street_crossed x_this_street_went x_this_street_harmed), (wo_3_rr a_this_machine a_this_machine_facts a_this_machine_stack), (wi_0_13_0 a_this_machine_facts cy g_this_machine_facts), (wi_0_6_0 a_this_plan_spans cy g_this_plan_spans), (wi_0_1600_0 a_this_plan_code cy g_this_plan_code), (wi_0_64_0 a_this_machine_stack cy g_this_machine_stack), (wi_0_320_0 a_this_street_cars cy g_this_street_cars), (wi_0_320_0 a_this_street_gaps cy g_this_street_gaps), (wi_0_6_0 a_this_street_trusts cy g_this_street_trusts), (wi_0_3600_0 a_this_street_known cy g_this_street_known), (wi_0_12_0 a_this_plan_kindOf cy g_this_plan_kindOf), (wi_0_200_0 a_this_plan_comers cy g_this_plan_comers), (wi_0_300_0 a_this_street_left cy g_this_street_left), (wi_0_12_0 a_this_street_leaves cy g_this_street_leaves), (wi_0_6_0 a_this_plan_pace cy g_this_plan_pace), (wi_0_12_0 a_this_plan_comesAt cy g_this_plan_comesAt), (wi_0_6_0 a_this_plan_calm cy g_this_plan_calm), (wi_0_180_0 a_this_ahead_told cy g_this_ahead_told), (wi_0_180_0 a_this_ahead_trusts cy g_this_ahead_trusts)] (k_Qi dC dI (fun (r : Int32) (u : Int32 × Int32 × Int32 × Int32 × (Nat → Int32) × Int32 × Int32 × Int32 × Int32 × Int32 × Int32 × Int32 × Int32 × (Nat → Int32) × (Nat → Int32) × (Nat → Int32) × (Nat → Int32) × (Nat → Int32) × (Nat → Int32) × (Nat → Int32) × (Nat → Int32) × (Nat → Int32) × (Nat → Int32)) => match u with | (n0, n1, n2, n3, n4, n5, n6, n7, n8, n9, n10, n11, n12, n13, n14, n15, n16, n17, n18, n19, n20, n21, n22) => ib r (-1) 30 ∧ ib n0 0 30 ∧ (F_X9_doubts (Int32.toInt x_this_plan_cycle) (Int32.toInt x_this_plan_least) (Int32.toInt x_this_plan_kinds) (lf_A g_this_plan_calm) (lf_A g_this_plan_pace) (Int32.toInt x_this_plan_walkers) (lf_A g_this_plan_kindOf) (lf_A g_this_plan_comesAt) (lf_A g_this_plan_comers) (lf_A g_this_plan_code) (lf_A g_this_plan_spans) (Int32.toInt x_this_now_day) (Int32.toInt x_this_now_rule) (Int32.toInt x_this_now_green) (lf_A g_this_now_trusts) (lf_A g_this_machine_facts) (lf_A g_this_machine_stack) (Int32.toInt x_this_street_day) (lf_A g_this_street_trusts) (Int32.toInt x_this_street_rule) (Int32.toInt x_this_street_green) (Int32.toInt x_this_street_absent) (Int32.toInt x_this_street_asksReds) (lf_A g_this_street_cars) (lf_A g_this_street_gaps) (lf_A g_this_street_known) (lf_A g_this_street_left) (lf_A g_this_street_leaves) (Int32.toInt x_this_street_pressed) (Int32.toInt x_this_street_crossed) (Int32.toInt x_this_street_went) (Int32.toInt x_this_street_harmed) (Int32.toInt x_this_ahead_state_day) (Int32.toInt x_this_ahead_state_rule) (Int32.toInt x_this_ahead_state_green) (lf_A g_this_ahead_state_trusts) (lf_A g_this_ahead_told) (lf_A g_this_ahead_trusts) (Int32.toInt x_this_ahead_known) (Int32.toInt p0) = ((Int32.toInt r), (Int32.toInt n0), (Int32.toInt n1), (Int32.toInt n2), (Int32.toInt n3), (lf_A n4), (Int32.toInt n5), (Int32.toInt n6), (Int32.toInt n7), (Int32.toInt n8), (Int32.toInt n9), (Int32.toInt n10), (Int32.toInt n11), (Int32.toInt n12), (lf_A n13), (lf_A n14), (lf_A n15), (lf_A n16), (lf_A n17), (lf_A n18), (lf_A n19), (lf_A n20), (lf_A n21), (lf_A n22)))) (fun u : Int32 × Int32 × Int32 × Int32 × (Nat → Int32) × Int32 × Int32 × Int32 × Int32 × Int32 × Int32 × Int32 × Int32 × (Nat → Int32) × (Nat → Int32) × (Nat → Int32) × (Nat → Int32) × (Nat → Int32) × (Nat → Int32) × (Nat → Int32) × (Nat → Int32) × (Nat → Int32) × (Nat → Int32) => match u with | (n0, n1, n2, n3, n4, n5, n6, n7, n8, n9, n10, n11, n12, n13, n14, n15, n16, n17, n18, n19, n20, n21, n22) => [(wo_9_rirrrrrrrrrrrirl a_this a_this_tape x_this_tapeSize a_this_plan a_this_spare a_this_now a_this_history a_this_machine a_this_reader a_this_street a_this_choice a_this_ahead a_this_watch a_this_octets x_this_octetCount a_this_refusals x_this_drawn), (wo_4_iiiiiiirrrirrrrrir a_this_plan x_this_plan_cycle x_this_plan_green x_this_plan_rule x_this_plan_least x_this_plan_away x_this_plan_statements x_this_plan_kinds a_this_plan_calm a_this_plan_pace a_this_plan_trusts x_this_plan_walkers a_this_plan_kindOf a_this_plan_comesAt a_this_plan_comers a_this_plan_names a_this_plan_code x_this_plan_size a_this_plan_spans), (wo_6_iiir a_this_now x_this_now_day x_this_now_rule x_this_now_green a_this_now_trusts), (wi_0_6_0 a_this_now_trusts cy g_this_now_trusts), (wo_0_rrrri a_this_ahead a_this_street a_this_ahead_state a_this_ahead_told a_this_ahead_trusts n0), (wo_6_iiir a_this_ahead_state n1 n2 n3 a_this_ahead_state_trusts), (wi_0_6_0 a_this_ahead_state_trusts cy n4), (wo_7_rririiiirrrrriiii a_this_street a_this_machine a_this_plan n5 a_this_street_trusts n6 n7 n8 x_this_street_asksReds a_this_street_cars a_this_street_gaps a_this_street_known a_this_street_left a_this_street_leaves n9 n10 n11 n12), (wo_3_rr a_this_machine a_this_machine_facts a_this_machine_stack), (wi_0_13_0 a_this_machine_facts cy n13), (wi_0_6_0 a_this_plan_spans cy g_this_plan_spans), (wi_0_1600_0 a_this_plan_code cy g_this_plan_code), (wi_0_64_0 a_this_machine_stack cy n14), (wi_0_320_0 a_this_street_cars cy n15), (wi_0_320_0 a_this_street_gaps cy n16), (wi_0_6_0 a_this_street_trusts cy n17), (wi_0_3600_0 a_this_street_known cy n18), (wi_0_12_0 a_this_plan_kindOf cy g_this_plan_kindOf), (wi_0_200_0 a_this_plan_comers cy g_this_plan_comers), (wi_0_300_0 a_this_street_left cy n19), (wi_0_12_0 a_this_street_leaves cy n20), (wi_0_6_0 a_this_plan_pace cy g_this_plan_pace), (wi_0_12_0 a_this_plan_comesAt cy g_this_plan_comesAt), (wi_0_6_0 a_this_plan_calm cy g_this_plan_calm), (wi_0_180_0 a_this_ahead_told cy n21), (wi_0_180_0 a_this_ahead_trusts cy n22)])) := by
  refine k_ofW2 (by decide +kernel) (Nat.le_of_ble_eq_true rfl) ?_
  intro p e s m below meth c A ls H locs args Q hQ C0 hZ hr hlk hin hP hD hA hS hl
  have C0 : k_cx p s m args c cX9_doubts 4 RX9 dC dI cy sq := C0
  have hx := C0.1
  have hb := C0.2.1
  have hl : lv_has ls 4 [(0, .ref a_this), (1, .int p0)] := hl
  obtain ⟨O, hO⟩ : ∃ o, o = F_X9_doubts (Int32.toInt x_this_plan_cycle) (Int32.toInt x_this_plan_least) (Int32.toInt x_this_plan_kinds) (lf_A g_this_plan_calm) (lf_A g_this_plan_pace) (Int32.toInt x_this_plan_walkers) (lf_A g_this_plan_kindOf) (lf_A g_this_plan_comesAt) (lf_A g_this_plan_comers) (lf_A g_this_plan_code) (lf_A g_this_plan_spans) (Int32.toInt x_this_now_day) (Int32.toInt x_this_now_rule) (Int32.toInt x_this_now_green) (lf_A g_this_now_trusts) (lf_A g_this_machine_facts) (lf_A g_this_machine_stack) (Int32.toInt x_this_street_day) (lf_A g_this_street_trusts) (Int32.toInt x_this_street_rule) (Int32.toInt x_this_street_green) (Int32.toInt x_this_street_absent) (Int32.toInt x_this_street_asksReds) (lf_A g_this_street_cars) (lf_A g_this_street_gaps) (lf_A g_this_street_known) (lf_A g_this_street_left) (lf_A g_this_street_leaves) (Int32.toInt x_this_street_pressed) (Int32.toInt x_this_street_crossed) (Int32.toInt x_this_street_went) (Int32.toInt x_this_street_harmed) (Int32.toInt x_this_ahead_state_day) (Int32.toInt x_this_ahead_state_rule) (Int32.toInt x_this_ahead_state_green) (lf_A g_this_ahead_state_trusts) (lf_A g_this_ahead_told) (lf_A g_this_ahead_trusts) (Int32.toInt x_this_ahead_known) (Int32.toInt p0) := ⟨_, rfl⟩
  have hq := hO
  unfold F_X9_doubts at hq
  have jn45 : ∀ (n : Nat) (J45_l2 : Int32) (J45_l3 : Int32) (J45_c4_4 : Int32) (J45_c5_0 : Int32) (J45_c5_1 : Int32) (J45_c5_2 : Int32) (J45_c7_2 : Int32) (J45_c7_4 : Int32) (J45_c7_5 : Int32) (J45_c7_6 : Int32) (J45_c7_13 : Int32) (J45_c7_14 : Int32) (J45_c7_15 : Int32) (J45_c7_16 : Int32) (J45_a6 : Nat → Int32) (J45_a9 : Nat → Int32) (J45_a12 : Nat → Int32) (J45_a13 : Nat → Int32) (J45_a14 : Nat → Int32) (J45_a15 : Nat → Int32) (J45_a16 : Nat → Int32) (J45_a19 : Nat → Int32) (J45_a20 : Nat → Int32) (J45_a24 : Nat → Int32) (J45_a25 : Nat → Int32) (H : Heap) (locs : List Loc) (ls : Array Slot), ib p0 0 5 → ib J45_l2 (-2147483648) 30 → ib x_this_plan_kinds 1 6 → ib J45_l3 1 31 → ib J45_c4_4 0 30 → (O = F_X9_doubts_45 (Int32.toInt x_this_plan_cycle) (Int32.toInt x_this_plan_least) (Int32.toInt x_this_plan_kinds) (lf_A g_this_plan_calm) (lf_A g_this_plan_pace) (Int32.toInt x_this_plan_walkers) (lf_A g_this_plan_kindOf) (lf_A g_this_plan_comesAt) (lf_A g_this_plan_comers) (lf_A g_this_plan_code) (lf_A g_this_plan_spans) (Int32.toInt x_this_now_day) (Int32.toInt x_this_now_rule) (Int32.toInt x_this_now_green) (lf_A g_this_now_trusts) (Int32.toInt x_this_street_asksReds) (Int32.toInt p0) n (Int32.toInt J45_l2) (Int32.toInt J45_l3) (Int32.toInt J45_c4_4) (Int32.toInt J45_c5_0) (Int32.toInt J45_c5_1) (Int32.toInt J45_c5_2) (Int32.toInt J45_c7_2) (Int32.toInt J45_c7_4) (Int32.toInt J45_c7_5) (Int32.toInt J45_c7_6) (Int32.toInt J45_c7_13) (Int32.toInt J45_c7_14) (Int32.toInt J45_c7_15) (Int32.toInt J45_c7_16) (lf_A J45_a6) (lf_A J45_a9) (lf_A J45_a12) (lf_A J45_a13) (lf_A J45_a14) (lf_A J45_a15) (lf_A J45_a16) (lf_A J45_a19) (lf_A J45_a20) (lf_A J45_a24) (lf_A J45_a25)) → 32 ≤ J45_l3.toInt + (n : Int) → va_P (dC, dI) vwCl [(wo_9_rirrrrrrrrrrrirl a_this a_this_tape x_this_tapeSize a_this_plan a_this_spare a_this_now a_this_history a_this_machine a_this_reader a_this_street a_this_choice a_this_ahead a_this_watch a_this_octets x_this_octetCount a_this_refusals x_this_drawn), (wo_4_iiiiiiirrrirrrrrir a_this_plan x_this_plan_cycle x_this_plan_green x_this_plan_rule x_this_plan_least x_this_plan_away x_this_plan_statements x_this_plan_kinds a_this_plan_calm a_this_plan_pace a_this_plan_trusts x_this_plan_walkers a_this_plan_kindOf a_this_plan_comesAt a_this_plan_comers a_this_plan_names a_this_plan_code x_this_plan_size a_this_plan_spans), (wo_6_iiir a_this_now x_this_now_day x_this_now_rule x_this_now_green a_this_now_trusts), (wi_0_6_0 a_this_now_trusts cy g_this_now_trusts), (wo_0_rrrri a_this_ahead a_this_street a_this_ahead_state a_this_ahead_told a_this_ahead_trusts J45_c4_4), (wo_6_iiir a_this_ahead_state J45_c5_0 J45_c5_1 J45_c5_2 a_this_ahead_state_trusts), (wi_0_6_0 a_this_ahead_state_trusts cy J45_a6), (wo_7_rririiiirrrrriiii a_this_street a_this_machine a_this_plan J45_c7_2 a_this_street_trusts J45_c7_4 J45_c7_5 J45_c7_6 x_this_street_asksReds a_this_street_cars a_this_street_gaps a_this_street_known a_this_street_left a_this_street_leaves J45_c7_13 J45_c7_14 J45_c7_15 J45_c7_16), (wo_3_rr a_this_machine a_this_machine_facts a_this_machine_stack), (wi_0_13_0 a_this_machine_facts cy J45_a9), (wi_0_6_0 a_this_plan_spans cy g_this_plan_spans), (wi_0_1600_0 a_this_plan_code cy g_this_plan_code), (wi_0_64_0 a_this_machine_stack cy J45_a12), (wi_0_320_0 a_this_street_cars cy J45_a13), (wi_0_320_0 a_this_street_gaps cy J45_a14), (wi_0_6_0 a_this_street_trusts cy J45_a15), (wi_0_3600_0 a_this_street_known cy J45_a16), (wi_0_12_0 a_this_plan_kindOf cy g_this_plan_kindOf), (wi_0_200_0 a_this_plan_comers cy g_this_plan_comers), (wi_0_300_0 a_this_street_left cy J45_a19), (wi_0_12_0 a_this_street_leaves cy J45_a20), (wi_0_6_0 a_this_plan_pace cy g_this_plan_pace), (wi_0_12_0 a_this_plan_comesAt cy g_this_plan_comesAt), (wi_0_6_0 a_this_plan_calm cy g_this_plan_calm), (wi_0_180_0 a_this_ahead_told cy J45_a24), (wi_0_180_0 a_this_ahead_trusts cy J45_a25)] H → va_D A [(wo_9_rirrrrrrrrrrrirl a_this a_this_tape x_this_tapeSize a_this_plan a_this_spare a_this_now a_this_history a_this_machine a_this_reader a_this_street a_this_choice a_this_ahead a_this_watch a_this_octets x_this_octetCount a_this_refusals x_this_drawn), (wo_4_iiiiiiirrrirrrrrir a_this_plan x_this_plan_cycle x_this_plan_green x_this_plan_rule x_this_plan_least x_this_plan_away x_this_plan_statements x_this_plan_kinds a_this_plan_calm a_this_plan_pace a_this_plan_trusts x_this_plan_walkers a_this_plan_kindOf a_this_plan_comesAt a_this_plan_comers a_this_plan_names a_this_plan_code x_this_plan_size a_this_plan_spans), (wo_6_iiir a_this_now x_this_now_day x_this_now_rule x_this_now_green a_this_now_trusts), (wi_0_6_0 a_this_now_trusts cy g_this_now_trusts), (wo_0_rrrri a_this_ahead a_this_street a_this_ahead_state a_this_ahead_told a_this_ahead_trusts J45_c4_4), (wo_6_iiir a_this_ahead_state J45_c5_0 J45_c5_1 J45_c5_2 a_this_ahead_state_trusts), (wi_0_6_0 a_this_ahead_state_trusts cy J45_a6), (wo_7_rririiiirrrrriiii a_this_street a_this_machine a_this_plan J45_c7_2 a_this_street_trusts J45_c7_4 J45_c7_5 J45_c7_6 x_this_street_asksReds a_this_street_cars a_this_street_gaps a_this_street_known a_this_street_left a_this_street_leaves J45_c7_13 J45_c7_14 J45_c7_15 J45_c7_16), (wo_3_rr a_this_machine a_this_machine_facts a_this_machine_stack), (wi_0_13_0 a_this_machine_facts cy J45_a9), (wi_0_6_0 a_this_plan_spans cy g_this_plan_spans), (wi_0_1600_0 a_this_plan_code cy g_this_plan_code), (wi_0_64_0 a_this_machine_stack cy J45_a12), (wi_0_320_0 a_this_street_cars cy J45_a13), (wi_0_320_0 a_this_street_gaps cy J45_a14), (wi_0_6_0 a_this_street_trusts cy J45_a15), (wi_0_3600_0 a_this_street_known cy J45_a16), (wi_0_12_0 a_this_plan_kindOf cy g_this_plan_kindOf), (wi_0_200_0 a_this_plan_comers cy g_this_plan_comers), (wi_0_300_0 a_this_street_left cy J45_a19), (wi_0_12_0 a_this_street_leaves cy J45_a20), (wi_0_6_0 a_this_plan_pace cy g_this_plan_pace), (wi_0_12_0 a_this_plan_comesAt cy g_this_plan_comesAt), (wi_0_6_0 a_this_plan_calm cy g_this_plan_calm), (wi_0_180_0 a_this_ahead_told cy J45_a24), (wi_0_180_0 a_this_ahead_trusts cy J45_a25)] → va_S A s.heap H locs → lv_has ls 4 [(0, .ref a_this), (1, .int p0), (2, .int J45_l2), (3, .int J45_l3)] → W p l e { frames := 7, cells := 0, slots := 0, locals := 172 } s m args below meth c H locs 0 0 Q (F0 m 45 ls []) := by
    as_aux_lemma =>
      intro n
      induction n with
      | zero =>
        intro J45_l2 J45_l3 J45_c4_4 J45_c5_0 J45_c5_1 J45_c5_2 J45_c7_2 J45_c7_4 J45_c7_5 J45_c7_6 J45_c7_13 J45_c7_14 J45_c7_15 J45_c7_16 J45_a6 J45_a9 J45_a12 J45_a13 J45_a14 J45_a15 J45_a16 J45_a19 J45_a20 J45_a24 J45_a25 H locs ls hK45_p0 hJ45_l2 hK45_x_this_plan_kinds hJ45_l3 hJ45_c4_4 hq hm
        exact absurd hm (by have := hJ45_l3; unfold ib at this; omega)
      | succ n ih =>
        intro J45_l2 J45_l3 J45_c4_4 J45_c5_0 J45_c5_1 J45_c5_2 J45_c7_2 J45_c7_4 J45_c7_5 J45_c7_6 J45_c7_13 J45_c7_14 J45_c7_15 J45_c7_16 J45_a6 J45_a9 J45_a12 J45_a13 J45_a14 J45_a15 J45_a16 J45_a19 J45_a20 J45_a24 J45_a25 H locs ls hK45_p0 hJ45_l2 hK45_x_this_plan_kinds hJ45_l3 hJ45_c4_4 hq hm45 hP hD hS hl
        have ih45 := ih
        obtain ⟨K45, hK45⟩ : ∃ K, K = F_X9_doubts_45 (Int32.toInt x_this_plan_cycle) (Int32.toInt x_this_plan_least) (Int32.toInt x_this_plan_kinds) (lf_A g_this_plan_calm) (lf_A g_this_plan_pace) (Int32.toInt x_this_plan_walkers) (lf_A g_this_plan_kindOf) (lf_A g_this_plan_comesAt) (lf_A g_this_plan_comers) (lf_A g_this_plan_code) (lf_A g_this_plan_spans) (Int32.toInt x_this_now_day) (Int32.toInt x_this_now_rule) (Int32.toInt x_this_now_green) (lf_A g_this_now_trusts) (Int32.toInt x_this_street_asksReds) (Int32.toInt p0) n := ⟨_, rfl⟩
        have hq : O = F_X9_doubts_45b (Int32.toInt x_this_plan_cycle) (Int32.toInt x_this_plan_least) (Int32.toInt x_this_plan_kinds) (lf_A g_this_plan_calm) (lf_A g_this_plan_pace) (Int32.toInt x_this_plan_walkers) (lf_A g_this_plan_kindOf) (lf_A g_this_plan_comesAt) (lf_A g_this_plan_comers) (lf_A g_this_plan_code) (lf_A g_this_plan_spans) (Int32.toInt x_this_now_day) (Int32.toInt x_this_now_rule) (Int32.toInt x_this_now_green) (lf_A g_this_now_trusts) (Int32.toInt x_this_street_asksReds) (Int32.toInt p0) K45 (Int32.toInt J45_l2) (Int32.toInt J45_l3) (Int32.toInt J45_c4_4) (Int32.toInt J45_c5_0) (Int32.toInt J45_c5_1) (Int32.toInt J45_c5_2) (Int32.toInt J45_c7_2) (Int32.toInt J45_c7_4) (Int32.toInt J45_c7_5) (Int32.toInt J45_c7_6) (Int32.toInt J45_c7_13) (Int32.toInt J45_c7_14) (Int32.toInt J45_c7_15) (Int32.toInt J45_c7_16) (lf_A J45_a6) (lf_A J45_a9) (lf_A J45_a12) (lf_A J45_a13) (lf_A J45_a14) (lf_A J45_a15) (lf_A J45_a16) (lf_A J45_a19) (lf_A J45_a20) (lf_A J45_a24) (lf_A J45_a25) := by rw [hK45]; exact hq
        unfold F_X9_doubts_45b at hq
        refine lv_iload_n hx hb dX9_doubts_45 rfl (lv_at hl 3 rfl) ?_
        refine lv_iload_n hx hb dX9_doubts_46 rfl (lv_at hl 2 rfl) ?_
        refine lv_icmp_gt (tgt := 89) hx hb dX9_doubts_47 rfl (fun c1 => ?_) (fun c1 => ?_)
        · replace hq := lf_pos hq (lf_lt (lf_rf J45_l2) (lf_rf J45_l3) c1)
          have h2 := ib_lt hJ45_l2 hJ45_l3 c1
          refine lv_iconst (v := (-1)) hx hb dX9_doubts_89 rfl ?_
          subst hQ; exact k_iret hx hb hr hlk rfl ((J45_c4_4, J45_c5_0, J45_c5_1, J45_c5_2, J45_a6, J45_c7_2, J45_c7_4, J45_c7_5, J45_c7_6, J45_c7_13, J45_c7_14, J45_c7_15, J45_c7_16, J45_a9, J45_a12, J45_a13, J45_a14, J45_a15, J45_a16, J45_a19, J45_a20, J45_a24, J45_a25)) hS ⟨ib_w (-1) 30 (ib_c (-1) (-1) (-1) rfl) rfl, ib_w 0 30 hJ45_c4_4 rfl, (hO.symm.trans (by try simp only [show ((-1) : Int32).toInt = (-1 : Int) from rfl]; exact hq))⟩ hP hD (Nat.le_of_ble_eq_true rfl) (Nat.le_of_ble_eq_true rfl) dX9_doubts_90
        · as_aux_lemma =>
            replace hq := lf_neg hq (lf_nlt (lf_rf J45_l2) (lf_rf J45_l3) c1)
            have h3 := ib_nlt hJ45_l2 hJ45_l3 c1
            have h4 : ib J45_l2 1 30 := ib_w 1 30 h3.1 rfl
            have h5 : ib J45_l3 1 30 := ib_w 1 30 h3.2 rfl
            refine lv_aload_n hx hb dX9_doubts_50 rfl (lv_at hl 0 rfl) ?_
            refine k_get C0 fg_X9_78 hP 0 rfl rfl dX9_doubts_51 ?_
            refine lv_aload_n hx hb dX9_doubts_54 rfl (lv_at hl 0 rfl) ?_
            refine k_get C0 fg_X9_30 hP 0 rfl rfl dX9_doubts_55 ?_
            refine lv_iload_n hx hb dX9_doubts_58 rfl (lv_at hl 3 rfl) ?_
            refine k_jvm hP hD hS hA [4, 5, 2, 3, 6, 7, 1, 8, 9, 10, 11, 12, 13, 14, 15, 16, 17, 18, 19, 20, 21, 22, 23, 24, 25] [true] rfl rfl (by decide +kernel) 0 0 (Nat.le_of_ble_eq_true rfl) (Nat.le_of_ble_eq_true rfl) (fun hPc hDc => k_runV (As := [.ref a_this_now, .int J45_l3]) (rest := []) C0 hZ hS hA (s_X0_goTo l dC dI cy sq a_this_ahead a_this_street a_this_machine a_this_machine_facts J45_a9 a_this_machine_stack J45_a12 a_this_plan x_this_plan_cycle x_this_plan_green x_this_plan_rule x_this_plan_least x_this_plan_away x_this_plan_statements x_this_plan_kinds a_this_plan_calm g_this_plan_calm a_this_plan_pace g_this_plan_pace a_this_plan_trusts x_this_plan_walkers a_this_plan_kindOf g_this_plan_kindOf a_this_plan_comesAt g_this_plan_comesAt a_this_plan_comers g_this_plan_comers a_this_plan_names a_this_plan_code g_this_plan_code x_this_plan_size a_this_plan_spans g_this_plan_spans J45_c7_2 a_this_street_trusts J45_a15 J45_c7_4 J45_c7_5 J45_c7_6 x_this_street_asksReds a_this_street_cars J45_a13 a_this_street_gaps J45_a14 a_this_street_known J45_a16 a_this_street_left J45_a19 a_this_street_leaves J45_a20 J45_c7_13 J45_c7_14 J45_c7_15 J45_c7_16 a_this_ahead_state J45_c5_0 J45_c5_1 J45_c5_2 a_this_ahead_state_trusts J45_a6 a_this_ahead_told J45_a24 a_this_ahead_trusts J45_a25 J45_c4_4 a_this_now x_this_now_day x_this_now_rule x_this_now_green a_this_now_trusts g_this_now_trusts J45_l3 (ib_w 0 120 hx_this_plan_cycle rfl) (ib_w 0 99 hx_this_plan_least rfl) (ib_w 0 6 hK45_x_this_plan_kinds rfl) (ib_w 0 12 hx_this_plan_walkers rfl) hg_this_plan_kindOf hg_this_plan_comesAt hg_this_plan_spans (ib_w 0 1 hx_this_street_asksReds rfl) (ib_w 0 30 hJ45_c4_4 rfl)) mV_X9_242 hPc hDc rfl rfl rfl hl rfl rfl (Nat.le_of_ble_eq_true rfl) ⟨(Nat.le_of_ble_eq_true rfl), (Nat.le_of_ble_eq_true rfl)⟩ ⟨(Nat.le_of_ble_eq_true rfl), (Nat.le_of_ble_eq_true rfl)⟩ dX9_doubts_59) (fun u7 H locs hw hP hD hS => ?_)
            obtain ⟨v8, v9, v10, v11, f12, v13, v14, v15, v16, v17, v18, v19, v20, f21, f22, f23, f24, f25, f26, f27, f28, f29, f30⟩ := u7
            try dsimp only at hP hD hw
            replace hP : va_P (dC, dI) vwCl [(wo_9_rirrrrrrrrrrrirl a_this a_this_tape x_this_tapeSize a_this_plan a_this_spare a_this_now a_this_history a_this_machine a_this_reader a_this_street a_this_choice a_this_ahead a_this_watch a_this_octets x_this_octetCount a_this_refusals x_this_drawn), (wo_0_rrrri a_this_ahead a_this_street a_this_ahead_state a_this_ahead_told a_this_ahead_trusts v8), (wo_6_iiir a_this_ahead_state v9 v10 v11 a_this_ahead_state_trusts), (wo_6_iiir a_this_now x_this_now_day x_this_now_rule x_this_now_green a_this_now_trusts), (wi_0_6_0 a_this_now_trusts cy g_this_now_trusts), (wi_0_6_0 a_this_ahead_state_trusts cy f12), (wo_7_rririiiirrrrriiii a_this_street a_this_machine a_this_plan v13 a_this_street_trusts v14 v15 v16 x_this_street_asksReds a_this_street_cars a_this_street_gaps a_this_street_known a_this_street_left a_this_street_leaves v17 v18 v19 v20), (wo_4_iiiiiiirrrirrrrrir a_this_plan x_this_plan_cycle x_this_plan_green x_this_plan_rule x_this_plan_least x_this_plan_away x_this_plan_statements x_this_plan_kinds a_this_plan_calm a_this_plan_pace a_this_plan_trusts x_this_plan_walkers a_this_plan_kindOf a_this_plan_comesAt a_this_plan_comers a_this_plan_names a_this_plan_code x_this_plan_size a_this_plan_spans), (wo_3_rr a_this_machine a_this_machine_facts a_this_machine_stack), (wi_0_13_0 a_this_machine_facts cy f21), (wi_0_6_0 a_this_plan_spans cy g_this_plan_spans), (wi_0_1600_0 a_this_plan_code cy g_this_plan_code), (wi_0_64_0 a_this_machine_stack cy f22), (wi_0_320_0 a_this_street_cars cy f23), (wi_0_320_0 a_this_street_gaps cy f24), (wi_0_6_0 a_this_street_trusts cy f25), (wi_0_3600_0 a_this_street_known cy f26), (wi_0_12_0 a_this_plan_kindOf cy g_this_plan_kindOf), (wi_0_200_0 a_this_plan_comers cy g_this_plan_comers), (wi_0_300_0 a_this_street_left cy f27), (wi_0_12_0 a_this_street_leaves cy f28), (wi_0_6_0 a_this_plan_pace cy g_this_plan_pace), (wi_0_12_0 a_this_plan_comesAt cy g_this_plan_comesAt), (wi_0_6_0 a_this_plan_calm cy g_this_plan_calm), (wi_0_180_0 a_this_ahead_told cy f29), (wi_0_180_0 a_this_ahead_trusts cy f30)] H := hP
            replace hD := k_D hP hD
            obtain ⟨h31, h32⟩ := hw
            replace hq := lf_p1 hq h32
            replace hq := lf_p1 hq rfl
            replace hq := lf_p1 hq rfl
            replace hq := lf_p1 hq rfl
            replace hq := lf_p1 hq rfl
            replace hq := lf_p1 hq rfl
            replace hq := lf_p1 hq rfl
            replace hq := lf_p1 hq rfl
            replace hq := lf_p1 hq rfl
            replace hq := lf_p1 hq rfl
            replace hq := lf_p1 hq rfl
            replace hq := lf_p1 hq rfl
            replace hq := lf_p1 hq rfl
            replace hq := lf_p1 hq rfl
            replace hq := lf_p1 hq rfl
            as_aux_lemma =>
              replace hq := lf_p1 hq rfl
              replace hq := lf_p1 hq rfl
              replace hq := lf_p1 hq rfl
              replace hq := lf_p1 hq rfl
              replace hq := lf_p1 hq rfl
              replace hq := lf_p1 hq rfl
              replace hq := lf_p1 hq rfl
              refine lv_aload_n hx hb dX9_doubts_62 rfl (lv_at hl 0 rfl) ?_
              refine k_get C0 fg_X9_78 hP 0 rfl rfl dX9_doubts_63 ?_
              refine k_get C0 fg_X9_253 hP 1 rfl rfl dX9_doubts_66 ?_
              refine lv_iload_n hx hb dX9_doubts_69 rfl (lv_at hl 3 rfl) ?_
              refine lv_iconst (v := 1) hx hb dX9_doubts_70 rfl ?_
              refine lv_isub hx hb dX9_doubts_71 ?_
              refine lv_topi (fun z33 ez33 => ?_)
              have h34 := ib_sub h5 (ib_c 1 1 1 rfl) rfl
              rw [← ez33] at h34
              have h35 : ib z33 0 29 := ib_w 0 29 h34.1 rfl
              have Ez33 := lf_sub h34.2 (lf_rf J45_l3) (lf_lc 1 (1 : Int) rfl)
              refine lv_bipush (v := 6) hx hb dX9_doubts_72 rfl ?_
              refine lv_imul hx hb dX9_doubts_74 ?_
              refine lv_topi (fun z36 ez36 => ?_)
              have h37 := ib_mul h35 (ib_c 6 6 6 rfl) rfl
              rw [← ez36] at h37
              have h38 : ib z36 0 174 := ib_w 0 174 h37.1 rfl
              have Ez36 := lf_mul h37.2 Ez33 (lf_lc 6 (6 : Int) rfl)
              refine lv_iload_n hx hb dX9_doubts_75 rfl (lv_at hl 1 rfl) ?_
              refine lv_iadd hx hb dX9_doubts_76 ?_
              refine lv_topi (fun z39 ez39 => ?_)
              have h40 := ib_add h38 hK45_p0 rfl
              rw [← ez39] at h40
              as_aux_lemma =>
                have h41 : ib z39 0 179 := ib_w 0 179 h40.1 rfl
                have Ez39 := lf_add h40.2 Ez36 (lf_rf p0)
                refine va_iald hx hb C0.2.2.2.2.2.1 hP 25 0 rfl rfl (ib_in 180 h41 rfl) dX9_doubts_77 ?_
                refine lv_topi (fun z42 ez42 => ?_)
                have Ez42 := lf_ld ez42 (lf_ra f30) Ez39
                refine lv_if_ne (tgt := 83) hx hb dX9_doubts_78 rfl (fun c43 => ?_) (fun c43 => ?_)
                · replace hq := lf_neg hq (lf_ne Ez42 (lf_lc 0 (0 : Int) rfl) c43)
                  obtain ⟨z44, ez44⟩ : ∃ y : Int32, y = J45_l3 + 1 := ⟨_, rfl⟩
                  refine lv_iinc (v := z44) (lv' := [(3, .int z44), (0, .ref a_this), (1, .int p0), (2, .int J45_l2)]) hx hb dX9_doubts_83 hl (k := 3) rfl (by rw [ez44]; rfl) (Nat.le_of_ble_eq_true rfl) rfl (fun ls hl => ?_)
                  have h45 := ib_add h5 (ib_c 1 1 1 rfl) rfl
                  rw [← ez44] at h45
                  have h46 : ib z44 2 31 := ib_w 2 31 h45.1 rfl
                  have Ez44 := lf_add h45.2 (lf_rf J45_l3) (lf_lc 1 (1 : Int) rfl)
                  refine lv_goto (tgt := 45) hx hb dX9_doubts_86 rfl ?_
                  exact ih45 J45_l2 z44 v8 v9 v10 v11 v13 v14 v15 v16 v17 v18 v19 v20 f12 f21 f22 f23 f24 f25 f26 f27 f28 f29 f30 H locs ls (ib_w 0 5 hK45_p0 rfl) (ib_w (-2147483648) 30 h4 rfl) (ib_w 1 6 hK45_x_this_plan_kinds rfl) (ib_w 1 31 h46 rfl) (ib_w 0 30 h31 rfl) (by rw [← hK45]; rw [lf_u Ez44]; exact hq) (by have := h45.2; have : (1 : Int32).toInt = 1 := rfl; omega) (hP.sub [0, 7, 3, 4, 1, 2, 5, 6, 8, 9, 10, 11, 12, 13, 14, 15, 16, 17, 18, 19, 20, 21, 22, 23, 24, 25] rfl) (hD.sub [0, 7, 3, 4, 1, 2, 5, 6, 8, 9, 10, 11, 12, 13, 14, 15, 16, 17, 18, 19, 20, 21, 22, 23, 24, 25] (by decide +kernel) rfl) hS (lv_sub hl [1, 2, 3, 0] rfl)
                · replace hq := lf_pos hq (lf_eq Ez42 (lf_lc 0 (0 : Int) rfl) c43)
                  have h47 := ib_eq (ib_any z42) (ib_c 0 0 0 rfl) c43
                  have h48 : ib z42 0 0 := ib_w 0 0 h47.1 rfl
                  refine lv_iload_n hx hb dX9_doubts_81 rfl (lv_at hl 3 rfl) ?_
                  subst hQ; exact k_iret hx hb hr hlk rfl ((v8, v9, v10, v11, f12, v13, v14, v15, v16, v17, v18, v19, v20, f21, f22, f23, f24, f25, f26, f27, f28, f29, f30)) hS ⟨ib_w (-1) 30 h5 rfl, ib_w 0 30 h31 rfl, (hO.symm.trans (by exact hq))⟩ (hP.sub [0, 7, 3, 4, 1, 2, 5, 6, 8, 9, 10, 11, 12, 13, 14, 15, 16, 17, 18, 19, 20, 21, 22, 23, 24, 25] rfl) (hD.sub [0, 7, 3, 4, 1, 2, 5, 6, 8, 9, 10, 11, 12, 13, 14, 15, 16, 17, 18, 19, 20, 21, 22, 23, 24, 25] (by decide +kernel) rfl) (Nat.le_of_ble_eq_true rfl) (Nat.le_of_ble_eq_true rfl) dX9_doubts_82
  refine lv_aload_n hx hb dX9_doubts_0 rfl (lv_at hl 0 rfl) ?_
  refine lv_iload_n hx hb dX9_doubts_1 rfl (lv_at hl 1 rfl) ?_
  refine k_jim hP hD hS hA [0, 1] [false, false, true, true, true, true, true, true, true, true, true, true, true, true, true, true, true, true, true, true, true, true, true, true, true, true] rfl rfl (by decide +kernel) 0 0 (Nat.le_of_ble_eq_true rfl) (Nat.le_of_ble_eq_true rfl) (fun hPc hDc => k_runV (As := [.int p0]) (rest := []) C0 hZ hS hA (s_X9_isKind l dC dI cy sq a_this a_this_tape x_this_tapeSize a_this_plan x_this_plan_cycle x_this_plan_green x_this_plan_rule x_this_plan_least x_this_plan_away x_this_plan_statements x_this_plan_kinds a_this_plan_calm a_this_plan_pace a_this_plan_trusts x_this_plan_walkers a_this_plan_kindOf a_this_plan_comesAt a_this_plan_comers a_this_plan_names a_this_plan_code x_this_plan_size a_this_plan_spans a_this_spare a_this_now a_this_history a_this_machine a_this_reader a_this_street a_this_choice a_this_ahead a_this_watch a_this_octets x_this_octetCount a_this_refusals x_this_drawn p0 (ib_w 0 6 hx_this_plan_kinds rfl)) mV_X9_169 hPc hDc rfl rfl rfl hl rfl rfl (Nat.le_of_ble_eq_true rfl) ⟨(Nat.le_of_ble_eq_true rfl), (Nat.le_of_ble_eq_true rfl)⟩ ⟨(Nat.le_of_ble_eq_true rfl), (Nat.le_of_ble_eq_true rfl)⟩ dX9_doubts_2) (fun r49 u50 H locs hw hP hD hS => ?_)
  try dsimp only at hP hD hw
  replace hP : va_P (dC, dI) vwCl [(wo_6_iiir a_this_now x_this_now_day x_this_now_rule x_this_now_green a_this_now_trusts), (wi_0_6_0 a_this_now_trusts cy g_this_now_trusts), (wo_0_rrrri a_this_ahead a_this_street a_this_ahead_state a_this_ahead_told a_this_ahead_trusts x_this_ahead_known), (wo_6_iiir a_this_ahead_state x_this_ahead_state_day x_this_ahead_state_rule x_this_ahead_state_green a_this_ahead_state_trusts), (wi_0_6_0 a_this_ahead_state_trusts cy g_this_ahead_state_trusts), (wo_7_rririiiirrrrriiii a_this_street a_this_machine a_this_plan x_this_street_day a_this_street_trusts x_this_street_rule x_this_street_green x_this_street_absent x_this_street_asksReds a_this_street_cars a_this_street_gaps a_this_street_known a_this_street_left a_this_street_leaves x_this_street_pressed x_this_street_crossed x_this_street_went x_this_street_harmed), (wo_3_rr a_this_machine a_this_machine_facts a_this_machine_stack), (wi_0_13_0 a_this_machine_facts cy g_this_machine_facts), (wi_0_6_0 a_this_plan_spans cy g_this_plan_spans), (wi_0_1600_0 a_this_plan_code cy g_this_plan_code), (wi_0_64_0 a_this_machine_stack cy g_this_machine_stack), (wi_0_320_0 a_this_street_cars cy g_this_street_cars), (wi_0_320_0 a_this_street_gaps cy g_this_street_gaps), (wi_0_6_0 a_this_street_trusts cy g_this_street_trusts), (wi_0_3600_0 a_this_street_known cy g_this_street_known), (wi_0_12_0 a_this_plan_kindOf cy g_this_plan_kindOf), (wi_0_200_0 a_this_plan_comers cy g_this_plan_comers), (wi_0_300_0 a_this_street_left cy g_this_street_left), (wi_0_12_0 a_this_street_leaves cy g_this_street_leaves), (wi_0_6_0 a_this_plan_pace cy g_this_plan_pace), (wi_0_12_0 a_this_plan_comesAt cy g_this_plan_comesAt), (wi_0_6_0 a_this_plan_calm cy g_this_plan_calm), (wi_0_180_0 a_this_ahead_told cy g_this_ahead_told), (wi_0_180_0 a_this_ahead_trusts cy g_this_ahead_trusts), (wo_9_rirrrrrrrrrrrirl a_this a_this_tape x_this_tapeSize a_this_plan a_this_spare a_this_now a_this_history a_this_machine a_this_reader a_this_street a_this_choice a_this_ahead a_this_watch a_this_octets x_this_octetCount a_this_refusals x_this_drawn), (wo_4_iiiiiiirrrirrrrrir a_this_plan x_this_plan_cycle x_this_plan_green x_this_plan_rule x_this_plan_least x_this_plan_away x_this_plan_statements x_this_plan_kinds a_this_plan_calm a_this_plan_pace a_this_plan_trusts x_this_plan_walkers a_this_plan_kindOf a_this_plan_comesAt a_this_plan_comers a_this_plan_names a_this_plan_code x_this_plan_size a_this_plan_spans)] H := hP
  replace hD := k_D hP hD
  obtain ⟨h51, h52, h53, h54⟩ := hw
  replace hq := lf_b1 hq h54
  refine lv_if_ne (tgt := 10) hx hb dX9_doubts_5 rfl (fun c55 => ?_) (fun c55 => ?_)
  · as_aux_lemma =>
      replace hq := lf_neg hq (lf_ne (lf_rf r49) (lf_lc 0 (0 : Int) rfl) c55)
      have h56 : ib r49 1 1 := ib_w 1 1 (ib_ne_lo 0 h51 rfl c55) rfl
      have h57 : ib x_this_plan_kinds 1 6 := ib_w 1 6 (ib_two hx_this_plan_kinds (h52 c55)) rfl
      have h58 : ib p0 0 5 := ib_w 0 5 (ib_two (ib_any p0) (h53 c55)) rfl
      refine lv_aload_n hx hb dX9_doubts_10 rfl (lv_at hl 0 rfl) ?_
      refine k_get C0 fg_X9_30 hP 24 rfl rfl dX9_doubts_11 ?_
      refine k_get C0 fg_X9_184 hP 0 rfl rfl dX9_doubts_14 ?_
      refine lv_iload_n hx hb dX9_doubts_17 rfl (lv_at hl 1 rfl) ?_
      refine va_iald hx hb C0.2.2.2.2.2.1 hP 1 0 rfl rfl (ib_in 6 h58 rfl) dX9_doubts_18 ?_
      refine lv_topi (fun z59 ez59 => ?_)
      have Ez59 := lf_ld ez59 (lf_ra g_this_now_trusts) (lf_rf p0)
      refine lv_if_ne (tgt := 24) hx hb dX9_doubts_19 rfl (fun c60 => ?_) (fun c60 => ?_)
      · as_aux_lemma =>
          replace hq := lf_neg hq (lf_ne Ez59 (lf_lc 0 (0 : Int) rfl) c60)
          refine lv_bipush (v := 30) hx hb dX9_doubts_24 rfl ?_
          refine lv_sipush (v := 999) hx hb dX9_doubts_26 rfl ?_
          refine lv_aload_n hx hb dX9_doubts_29 rfl (lv_at hl 0 rfl) ?_
          refine k_get C0 fg_X9_30 hP 24 rfl rfl dX9_doubts_30 ?_
          refine k_get C0 fg_X9_154 hP 0 rfl rfl dX9_doubts_33 ?_
          refine lv_isub hx hb dX9_doubts_36 ?_
          refine lv_topi (fun z61 ez61 => ?_)
          have Ez61 := lf_op lf_isub ez61 (lf_lc 999 (999 : Int) rfl) (lf_rf x_this_now_day)
          refine lv_iconst (v := 1) hx hb dX9_doubts_37 rfl ?_
          refine lv_iadd hx hb dX9_doubts_38 ?_
          refine lv_topi (fun z62 ez62 => ?_)
          have Ez62 := lf_op lf_iadd ez62 Ez61 (lf_lc 1 (1 : Int) rfl)
          refine va_mmin hx hb (by rw [C0.2.2.1]; exact hl.1.symm) C0.2.2.2.1 (C0.2.2.2.2.1 _ wd1183) (C0.2.2.2.2.1 _ wd298) (C0.2.2.2.2.1 _ wd299) (C0.2.2.2.2.1 _ wd300) (Nat.le_of_ble_eq_true rfl) (Nat.le_of_ble_eq_true rfl) (Nat.le_of_ble_eq_true rfl) (Nat.le_of_ble_eq_true rfl) dX9_doubts_39 ?_
          refine lv_topi (fun z63 ez63 => ?_)
          have h64 : ib z63 (-2147483648) 30 := by rw [ez63]; exact ib_w (-2147483648) 30 (ib_min (ib_c 30 30 30 rfl) (ib_any z62)) rfl
          have Ez63 := lf_min ez63 (lf_lc 30 (30 : Int) rfl) Ez62
          refine lv_istore_n (lv' := [(2, .int z63), (0, .ref a_this), (1, .int p0)]) hx hb dX9_doubts_42 rfl hl (Nat.le_of_ble_eq_true rfl) rfl (fun ls hl => ?_)
          refine lv_iconst (v := 1) hx hb dX9_doubts_43 rfl ?_
          refine lv_istore_n (lv' := [(3, .int 1), (2, .int z63), (0, .ref a_this), (1, .int p0)]) hx hb dX9_doubts_44 rfl hl (Nat.le_of_ble_eq_true rfl) rfl (fun ls hl => ?_)
          exact jn45 32 z63 1 x_this_ahead_known x_this_ahead_state_day x_this_ahead_state_rule x_this_ahead_state_green x_this_street_day x_this_street_rule x_this_street_green x_this_street_absent x_this_street_pressed x_this_street_crossed x_this_street_went x_this_street_harmed g_this_ahead_state_trusts g_this_machine_facts g_this_machine_stack g_this_street_cars g_this_street_gaps g_this_street_trusts g_this_street_known g_this_street_left g_this_street_leaves g_this_ahead_told g_this_ahead_trusts H locs ls (ib_w 0 5 h58 rfl) (ib_w (-2147483648) 30 h64 rfl) (ib_w 1 6 h57 rfl) (ib_w 1 31 (ib_c 1 1 1 rfl) rfl) (ib_w 0 30 hx_this_ahead_known rfl) (by rw [lf_u Ez63]; try simp only [show (1 : Int32).toInt = (1 : Int) from rfl]; exact hq) (by have := (ib_c 1 1 1 rfl); unfold ib at this; omega) (hP.sub [24, 25, 0, 1, 2, 3, 4, 5, 6, 7, 8, 9, 10, 11, 12, 13, 14, 15, 16, 17, 18, 19, 20, 21, 22, 23] rfl) (hD.sub [24, 25, 0, 1, 2, 3, 4, 5, 6, 7, 8, 9, 10, 11, 12, 13, 14, 15, 16, 17, 18, 19, 20, 21, 22, 23] (by decide +kernel) rfl) hS (lv_sub hl [2, 3, 1, 0] rfl)
      · replace hq := lf_pos hq (lf_eq Ez59 (lf_lc 0 (0 : Int) rfl) c60)
        have h65 := ib_eq (ib_any z59) (ib_c 0 0 0 rfl) c60
        have h66 : ib z59 0 0 := ib_w 0 0 h65.1 rfl
        refine lv_iconst (v := 0) hx hb dX9_doubts_22 rfl ?_
        subst hQ; exact k_iret hx hb hr hlk rfl ((x_this_ahead_known, x_this_ahead_state_day, x_this_ahead_state_rule, x_this_ahead_state_green, g_this_ahead_state_trusts, x_this_street_day, x_this_street_rule, x_this_street_green, x_this_street_absent, x_this_street_pressed, x_this_street_crossed, x_this_street_went, x_this_street_harmed, g_this_machine_facts, g_this_machine_stack, g_this_street_cars, g_this_street_gaps, g_this_street_trusts, g_this_street_known, g_this_street_left, g_this_street_leaves, g_this_ahead_told, g_this_ahead_trusts)) hS ⟨ib_w (-1) 30 (ib_c 0 0 0 rfl) rfl, ib_w 0 30 hx_this_ahead_known rfl, (hO.symm.trans (by try simp only [show (0 : Int32).toInt = (0 : Int) from rfl]; exact hq))⟩ (hP.sub [24, 25, 0, 1, 2, 3, 4, 5, 6, 7, 8, 9, 10, 11, 12, 13, 14, 15, 16, 17, 18, 19, 20, 21, 22, 23] rfl) (hD.sub [24, 25, 0, 1, 2, 3, 4, 5, 6, 7, 8, 9, 10, 11, 12, 13, 14, 15, 16, 17, 18, 19, 20, 21, 22, 23] (by decide +kernel) rfl) (Nat.le_of_ble_eq_true rfl) (Nat.le_of_ble_eq_true rfl) dX9_doubts_23
  · replace hq := lf_pos hq (lf_eq (lf_rf r49) (lf_lc 0 (0 : Int) rfl) c55)
    have h67 := ib_eq h51 (ib_c 0 0 0 rfl) c55
    have h68 : ib r49 0 0 := ib_w 0 0 h67.1 rfl
    refine lv_iconst (v := (-1)) hx hb dX9_doubts_8 rfl ?_
    subst hQ; exact k_iret hx hb hr hlk rfl ((x_this_ahead_known, x_this_ahead_state_day, x_this_ahead_state_rule, x_this_ahead_state_green, g_this_ahead_state_trusts, x_this_street_day, x_this_street_rule, x_this_street_green, x_this_street_absent, x_this_street_pressed, x_this_street_crossed, x_this_street_went, x_this_street_harmed, g_this_machine_facts, g_this_machine_stack, g_this_street_cars, g_this_street_gaps, g_this_street_trusts, g_this_street_known, g_this_street_left, g_this_street_leaves, g_this_ahead_told, g_this_ahead_trusts)) hS ⟨ib_w (-1) 30 (ib_c (-1) (-1) (-1) rfl) rfl, ib_w 0 30 hx_this_ahead_known rfl, (hO.symm.trans (by try simp only [show ((-1) : Int32).toInt = (-1 : Int) from rfl]; exact hq))⟩ (hP.sub [24, 25, 0, 1, 2, 3, 4, 5, 6, 7, 8, 9, 10, 11, 12, 13, 14, 15, 16, 17, 18, 19, 20, 21, 22, 23] rfl) (hD.sub [24, 25, 0, 1, 2, 3, 4, 5, 6, 7, 8, 9, 10, 11, 12, 13, 14, 15, 16, 17, 18, 19, 20, 21, 22, 23] (by decide +kernel) rfl) (Nat.le_of_ble_eq_true rfl) (Nat.le_of_ble_eq_true rfl) dX9_doubts_9
set_option maxHeartbeats 4000000 in
set_option maxRecDepth 100000 in
theorem s_X9_end (l : Launch) (dC : Nat → ClassId) (dI : Nat → Nat → Nat) (cy : Nat → ClassId) (sq : Nat → Nat) (a_this : Nat) (a_this_tape : Nat) (x_this_tapeSize : Int32) (a_this_plan : Nat) (a_this_spare : Nat) (a_this_now : Nat) (a_this_history : Nat) (a_this_machine : Nat) (a_this_reader : Nat) (a_this_street : Nat) (a_this_choice : Nat) (a_this_ahead : Nat) (a_this_watch : Nat) (a_this_octets : Nat) (x_this_octetCount : Int32) (a_this_refusals : Nat) (g_this_refusals : Nat → Int32) (x_this_drawn : Int64) (p0 : Int32) (hx_this_tapeSize : ib x_this_tapeSize 0 1600) : k_Met l yX9_end cX9_end 2 (some .boolean) { frames := 1, cells := 0, slots := 0, locals := 21 } dC dI cy sq [.ref a_this, .int p0] [(wo_9_rirrrrrrrrrrrirl a_this a_this_tape x_this_tapeSize a_this_plan a_this_spare a_this_now a_this_history a_this_machine a_this_reader a_this_street a_this_choice a_this_ahead a_this_watch a_this_octets x_this_octetCount a_this_refusals x_this_drawn), (wi_0_6_0 a_this_refusals cy g_this_refusals)] (k_Qi dC dI (fun (r : Int32) (u : Int32 × (Nat → Int32)) => match u with | (n0, n1) => ib r 0 1 ∧ ib n0 0 1600 ∧ (¬ r = 0 → ib p0 0 1600) ∧ ((0 ≤ p0.toInt ∧ p0.toInt ≤ x_this_tapeSize.toInt ∧ n0 = p0 ∧ r = 1) ∨ (¬ (0 ≤ p0.toInt ∧ p0.toInt ≤ x_this_tapeSize.toInt) ∧ n0 = x_this_tapeSize ∧ r = 0)) ∧ (F_X9_end (Int32.toInt x_this_tapeSize) (lf_A g_this_refusals) (Int32.toInt p0) = ((Int32.toInt r), (Int32.toInt n0), (lf_A n1)))) (fun u : Int32 × (Nat → Int32) => match u with | (n0, n1) => [(wo_9_rirrrrrrrrrrrirl a_this a_this_tape n0 a_this_plan a_this_spare a_this_now a_this_history a_this_machine a_this_reader a_this_street a_this_choice a_this_ahead a_this_watch a_this_octets x_this_octetCount a_this_refusals x_this_drawn), (wi_0_6_0 a_this_refusals cy n1)])) := by
  refine k_ofW2 (by decide +kernel) (Nat.le_of_ble_eq_true rfl) ?_
  intro p e s m below meth c A ls H locs args Q hQ C0 hZ hr hlk hin hP hD hA hS hl
  have C0 : k_cx p s m args c cX9_end 2 RX9 dC dI cy sq := C0
  have hx := C0.1
  have hb := C0.2.1
  have hl : lv_has ls 2 [(0, .ref a_this), (1, .int p0)] := hl
  obtain ⟨O, hO⟩ : ∃ o, o = F_X9_end (Int32.toInt x_this_tapeSize) (lf_A g_this_refusals) (Int32.toInt p0) := ⟨_, rfl⟩
  have hq := hO
  unfold F_X9_end at hq
  refine lv_iload_n hx hb dX9_end_0 rfl (lv_at hl 1 rfl) ?_
  refine lv_if_lt (tgt := 12) hx hb dX9_end_1 rfl (fun c1 => ?_) (fun c1 => ?_)
  · replace hq := lf_pos hq (lf_lt (lf_rf p0) (lf_lc 0 (0 : Int) rfl) c1)
    have h2 := ib_lt (ib_any p0) (ib_c 0 0 0 rfl) c1
    have h3 : ib p0 (-2147483648) (-1) := ib_w (-2147483648) (-1) h2.1 rfl
    refine lv_aload_n hx hb dX9_end_12 rfl (lv_at hl 0 rfl) ?_
    refine lv_iconst (v := 0) hx hb dX9_end_13 rfl ?_
    refine k_jim hP hD hS hA [0, 1] [] rfl rfl rfl 0 0 (Nat.le_of_ble_eq_true rfl) (Nat.le_of_ble_eq_true rfl) (fun hPc hDc => k_runV (As := [.int 0]) (rest := []) C0 hZ hS hA (s_X9_deny l dC dI cy sq a_this a_this_tape x_this_tapeSize a_this_plan a_this_spare a_this_now a_this_history a_this_machine a_this_reader a_this_street a_this_choice a_this_ahead a_this_watch a_this_octets x_this_octetCount a_this_refusals g_this_refusals x_this_drawn 0 (ib_w 0 5 (ib_c 0 0 0 rfl) rfl)) mV_X9_110 hPc hDc rfl rfl rfl hl rfl rfl (Nat.le_of_ble_eq_true rfl) ⟨(Nat.le_of_ble_eq_true rfl), (Nat.le_of_ble_eq_true rfl)⟩ ⟨(Nat.le_of_ble_eq_true rfl), (Nat.le_of_ble_eq_true rfl)⟩ dX9_end_14) (fun r4 u5 H locs hw hP hD hS => ?_)
    obtain ⟨f6, ef6⟩ : ∃ z, z = u5 := ⟨_, rfl⟩; subst ef6
    try dsimp only at hP hD hw
    replace hP : va_P (dC, dI) vwCl [(wo_9_rirrrrrrrrrrrirl a_this a_this_tape x_this_tapeSize a_this_plan a_this_spare a_this_now a_this_history a_this_machine a_this_reader a_this_street a_this_choice a_this_ahead a_this_watch a_this_octets x_this_octetCount a_this_refusals x_this_drawn), (wi_0_6_0 a_this_refusals cy f6)] H := hP
    replace hD := k_D hP hD
    obtain ⟨h7, h8⟩ := hw
    have h8 := by have h9 := h8; try simp only [show (0 : Int32).toInt = (0 : Int) from rfl] at h9; exact h9
    replace hq := lf_p1 hq h8
    subst hQ; exact k_iret hx hb hr hlk (ib_bool (ib_w 0 1 h7 rfl)) ((x_this_tapeSize, f6)) hS ⟨ib_w 0 1 h7 rfl, ib_w 0 1600 hx_this_tapeSize rfl, fun hq9 => absurd (ib_one h7 rfl) hq9, Or.inr ⟨by have := (hx_this_tapeSize).1; have := (hx_this_tapeSize).2; have := (h3).1; have := (h3).2; omega, rfl, ib_one h7 rfl⟩, (hO.symm.trans (by exact hq))⟩ hP hD (Nat.le_of_ble_eq_true rfl) (Nat.le_of_ble_eq_true rfl) dX9_end_17
  · replace hq := lf_neg hq (lf_nlt (lf_rf p0) (lf_lc 0 (0 : Int) rfl) c1)
    have h9 := ib_nlt (ib_any p0) (ib_c 0 0 0 rfl) c1
    have h10 : ib p0 0 2147483647 := ib_w 0 2147483647 h9.1 rfl
    refine lv_iload_n hx hb dX9_end_4 rfl (lv_at hl 1 rfl) ?_
    refine lv_aload_n hx hb dX9_end_5 rfl (lv_at hl 0 rfl) ?_
    refine k_get C0 fg_X9_13 hP 0 rfl rfl dX9_end_6 ?_
    refine lv_icmp_le (tgt := 18) hx hb dX9_end_9 rfl (fun c11 => ?_) (fun c11 => ?_)
    · replace hq := lf_pos hq (lf_le (lf_rf p0) (lf_rf x_this_tapeSize) c11)
      have h12 := ib_le h10 hx_this_tapeSize c11
      have h13 : ib p0 0 1600 := ib_w 0 1600 h12.1 rfl
      refine lv_aload_n hx hb dX9_end_18 rfl (lv_at hl 0 rfl) ?_
      refine lv_iload_n hx hb dX9_end_19 rfl (lv_at hl 1 rfl) ?_
      refine k_put C0 fp_X9_13 hP hD hS 0 rfl rfl rfl (Nat.le_of_ble_eq_true rfl) dX9_end_20 (fun H locs hP hD hS => ?_)
      replace hP : va_P (dC, dI) vwCl [(wo_9_rirrrrrrrrrrrirl a_this a_this_tape p0 a_this_plan a_this_spare a_this_now a_this_history a_this_machine a_this_reader a_this_street a_this_choice a_this_ahead a_this_watch a_this_octets x_this_octetCount a_this_refusals x_this_drawn), (wi_0_6_0 a_this_refusals cy g_this_refusals)] H := hP
      replace hD := k_D hP hD
      refine lv_iconst (v := 1) hx hb dX9_end_23 rfl ?_
      subst hQ; exact k_iret hx hb hr hlk (k_nb 1 rfl) ((p0, g_this_refusals)) hS ⟨ib_w 0 1 (ib_c 1 1 1 rfl) rfl, ib_w 0 1600 h13 rfl, fun _ => ib_w 0 1600 h13 rfl, Or.inl ⟨by have := (hx_this_tapeSize).1; have := (hx_this_tapeSize).2; have := (h13).1; have := (h13).2; have := Int32.le_iff_toInt_le.mp c11; omega, by have := (hx_this_tapeSize).1; have := (hx_this_tapeSize).2; have := (h13).1; have := (h13).2; have := Int32.le_iff_toInt_le.mp c11; omega, rfl, rfl⟩, (hO.symm.trans (by try simp only [show (1 : Int32).toInt = (1 : Int) from rfl]; exact hq))⟩ hP hD (Nat.le_of_ble_eq_true rfl) (Nat.le_of_ble_eq_true rfl) dX9_end_24
    · replace hq := lf_neg hq (lf_nle (lf_rf p0) (lf_rf x_this_tapeSize) c11)
      have h14 := ib_nle h10 hx_this_tapeSize c11
      have h15 : ib p0 1 2147483647 := ib_w 1 2147483647 h14.1 rfl
      refine lv_aload_n hx hb dX9_end_12 rfl (lv_at hl 0 rfl) ?_
      refine lv_iconst (v := 0) hx hb dX9_end_13 rfl ?_
      refine k_jim hP hD hS hA [0, 1] [] rfl rfl rfl 0 0 (Nat.le_of_ble_eq_true rfl) (Nat.le_of_ble_eq_true rfl) (fun hPc hDc => k_runV (As := [.int 0]) (rest := []) C0 hZ hS hA (s_X9_deny l dC dI cy sq a_this a_this_tape x_this_tapeSize a_this_plan a_this_spare a_this_now a_this_history a_this_machine a_this_reader a_this_street a_this_choice a_this_ahead a_this_watch a_this_octets x_this_octetCount a_this_refusals g_this_refusals x_this_drawn 0 (ib_w 0 5 (ib_c 0 0 0 rfl) rfl)) mV_X9_110 hPc hDc rfl rfl rfl hl rfl rfl (Nat.le_of_ble_eq_true rfl) ⟨(Nat.le_of_ble_eq_true rfl), (Nat.le_of_ble_eq_true rfl)⟩ ⟨(Nat.le_of_ble_eq_true rfl), (Nat.le_of_ble_eq_true rfl)⟩ dX9_end_14) (fun r16 u17 H locs hw hP hD hS => ?_)
      obtain ⟨f18, ef18⟩ : ∃ z, z = u17 := ⟨_, rfl⟩; subst ef18
      try dsimp only at hP hD hw
      replace hP : va_P (dC, dI) vwCl [(wo_9_rirrrrrrrrrrrirl a_this a_this_tape x_this_tapeSize a_this_plan a_this_spare a_this_now a_this_history a_this_machine a_this_reader a_this_street a_this_choice a_this_ahead a_this_watch a_this_octets x_this_octetCount a_this_refusals x_this_drawn), (wi_0_6_0 a_this_refusals cy f18)] H := hP
      replace hD := k_D hP hD
      obtain ⟨h19, h20⟩ := hw
      have h20 := by have h9 := h20; try simp only [show (0 : Int32).toInt = (0 : Int) from rfl] at h9; exact h9
      replace hq := lf_p1 hq h20
      subst hQ; exact k_iret hx hb hr hlk (ib_bool (ib_w 0 1 h19 rfl)) ((x_this_tapeSize, f18)) hS ⟨ib_w 0 1 h19 rfl, ib_w 0 1600 hx_this_tapeSize rfl, fun hq9 => absurd (ib_one h19 rfl) hq9, Or.inr ⟨by have := (hx_this_tapeSize).1; have := (hx_this_tapeSize).2; have := (h15).1; have := (h15).2; have := mt Int32.le_iff_toInt_le.mpr c11; omega, rfl, ib_one h19 rfl⟩, (hO.symm.trans (by exact hq))⟩ hP hD (Nat.le_of_ble_eq_true rfl) (Nat.le_of_ble_eq_true rfl) dX9_end_17
set_option maxHeartbeats 4000000 in
set_option maxRecDepth 100000 in
theorem s_X9_fault (l : Launch) (dC : Nat → ClassId) (dI : Nat → Nat → Nat) (cy : Nat → ClassId) (sq : Nat → Nat) (a_this : Nat) (a_this_tape : Nat) (x_this_tapeSize : Int32) (a_this_plan : Nat) (a_this_spare : Nat) (a_this_now : Nat) (a_this_history : Nat) (a_this_machine : Nat) (a_this_reader_plan : Nat) (a_this_reader : Nat) (x_this_reader_length : Int32) (x_this_reader_at : Int32) (x_this_reader_behind : Int32) (x_this_reader_sort : Int32) (x_this_reader_allowed : Int32) (x_this_reader_fault : Int32) (x_this_reader_place : Int32) (a_this_street : Nat) (a_this_choice : Nat) (a_this_ahead : Nat) (a_this_watch : Nat) (a_this_octets : Nat) (x_this_octetCount : Int32) (a_this_refusals : Nat) (x_this_drawn : Int64) (p0 : Int32)  : k_Met l yX9_fault cX9_fault 2 (some .int) { frames := 0, cells := 0, slots := 0, locals := 0 } dC dI cy sq [.ref a_this, .int p0] [(wo_9_rirrrrrrrrrrrirl a_this a_this_tape x_this_tapeSize a_this_plan a_this_spare a_this_now a_this_history a_this_machine a_this_reader a_this_street a_this_choice a_this_ahead a_this_watch a_this_octets x_this_octetCount a_this_refusals x_this_drawn), (wo_5_riiiiirii a_this_reader a_this_tape x_this_reader_length x_this_reader_at x_this_reader_behind x_this_reader_sort x_this_reader_allowed a_this_reader_plan x_this_reader_fault x_this_reader_place)] (k_Qi dC dI (fun (r : Int32) (_ : Unit) => (F_X9_fault (Int32.toInt x_this_reader_fault) (Int32.toInt x_this_reader_place) (Int32.toInt p0) = ((Int32.toInt r)))) (fun _ : Unit => [(wo_9_rirrrrrrrrrrrirl a_this a_this_tape x_this_tapeSize a_this_plan a_this_spare a_this_now a_this_history a_this_machine a_this_reader a_this_street a_this_choice a_this_ahead a_this_watch a_this_octets x_this_octetCount a_this_refusals x_this_drawn), (wo_5_riiiiirii a_this_reader a_this_tape x_this_reader_length x_this_reader_at x_this_reader_behind x_this_reader_sort x_this_reader_allowed a_this_reader_plan x_this_reader_fault x_this_reader_place)])) := by
  refine k_ofW2 (by decide +kernel) (Nat.le_of_ble_eq_true rfl) ?_
  intro p e s m below meth c A ls H locs args Q hQ C0 hZ hr hlk hin hP hD hA hS hl
  have C0 : k_cx p s m args c cX9_fault 2 RX9 dC dI cy sq := C0
  have hx := C0.1
  have hb := C0.2.1
  have hl : lv_has ls 2 [(0, .ref a_this), (1, .int p0)] := hl
  obtain ⟨O, hO⟩ : ∃ o, o = F_X9_fault (Int32.toInt x_this_reader_fault) (Int32.toInt x_this_reader_place) (Int32.toInt p0) := ⟨_, rfl⟩
  have hq := hO
  unfold F_X9_fault at hq
  refine lv_iload_n hx hb dX9_fault_0 rfl (lv_at hl 1 rfl) ?_
  rcases Decidable.em (p0 = 0) with s1_0 | s1_0
  · skip
    replace hq := lf_pos hq (lf_eq (lf_rf p0) (lf_lc 0 (0 : Int) rfl) s1_0)
    have h2 : ib p0 0 0 := by rw [s1_0]; exact ib_c 0 0 0 rfl
    refine lv_lookup (tgt := 28) hx hb dX9_fault_1 (by decide) (by rw [s1_0] <;> rfl) (by decide) ?_
    refine lv_aload_n hx hb dX9_fault_28 rfl (lv_at hl 0 rfl) ?_
    refine k_get C0 fg_X9_53 hP 0 rfl rfl dX9_fault_29 ?_
    refine k_get C0 fg_X9_122 hP 1 rfl rfl dX9_fault_32 ?_
    subst hQ; exact k_iret hx hb hr hlk rfl () hS ((hO.symm.trans (by exact hq))) hP hD (Nat.le_of_ble_eq_true rfl) (Nat.le_of_ble_eq_true rfl) dX9_fault_35
  replace hq := lf_neg hq (lf_ne (lf_rf p0) (lf_lc 0 (0 : Int) rfl) s1_0)
  rcases Decidable.em (p0 = 1) with s1_1 | s1_1
  · skip
    replace hq := lf_pos hq (lf_eq (lf_rf p0) (lf_lc 1 (1 : Int) rfl) s1_1)
    have h3 : ib p0 1 1 := by rw [s1_1]; exact ib_c 1 1 1 rfl
    refine lv_lookup (tgt := 36) hx hb dX9_fault_1 (by decide) (by rw [s1_1] <;> rfl) (by decide) ?_
    refine lv_aload_n hx hb dX9_fault_36 rfl (lv_at hl 0 rfl) ?_
    refine k_get C0 fg_X9_53 hP 0 rfl rfl dX9_fault_37 ?_
    refine k_get C0 fg_X9_142 hP 1 rfl rfl dX9_fault_40 ?_
    subst hQ; exact k_iret hx hb hr hlk rfl () hS ((hO.symm.trans (by exact hq))) hP hD (Nat.le_of_ble_eq_true rfl) (Nat.le_of_ble_eq_true rfl) dX9_fault_43
  replace hq := lf_neg hq (lf_ne (lf_rf p0) (lf_lc 1 (1 : Int) rfl) s1_1)
  refine lv_lookup (tgt := 44) hx hb dX9_fault_1 (by decide) (off := 43) (k_look p0 s1_0 s1_1) (by decide) ?_
  refine lv_iconst (v := (-1)) hx hb dX9_fault_44 rfl ?_
  subst hQ; exact k_iret hx hb hr hlk rfl () hS ((hO.symm.trans (by try simp only [show ((-1) : Int32).toInt = (-1 : Int) from rfl]; exact hq))) hP hD (Nat.le_of_ble_eq_true rfl) (Nat.le_of_ble_eq_true rfl) dX9_fault_45
set_option maxHeartbeats 4000000 in
set_option maxRecDepth 100000 in
theorem s_X9_putBytes_f_0_1580 (l : Launch) (dC : Nat → ClassId) (dI : Nat → Nat → Nat) (cy : Nat → ClassId) (sq : Nat → Nat) (a_this : Nat) (a_this_tape : Nat) (g_this_tape : Nat → Int32) (x_this_tapeSize : Int32) (a_this_plan : Nat) (a_this_spare : Nat) (a_this_now : Nat) (a_this_history : Nat) (a_this_machine : Nat) (a_this_reader : Nat) (a_this_street : Nat) (a_this_choice : Nat) (a_this_ahead : Nat) (a_this_watch : Nat) (a_this_octets : Nat) (x_this_octetCount : Int32) (a_this_refusals : Nat) (x_this_drawn : Int64) (p0 : Int32) (hg_this_tape : ia g_this_tape 1600 0 255) (hx_this_tapeSize : ib x_this_tapeSize 0 1580) : k_Met l yX9_putBytes cX9_putBytes 3 none { frames := 0, cells := 0, slots := 0, locals := 0 } dC dI cy sq [.ref a_this, .int p0] [(wo_9_rirrrrrrrrrrrirl a_this a_this_tape x_this_tapeSize a_this_plan a_this_spare a_this_now a_this_history a_this_machine a_this_reader a_this_street a_this_choice a_this_ahead a_this_watch a_this_octets x_this_octetCount a_this_refusals x_this_drawn), (wi_0_1600_0 a_this_tape cy g_this_tape)] (k_Qv dC dI (fun (u : Int32 × (Nat → Int32)) => match u with | (n0, n1) => ib n0 4 1584 ∧ ia n1 1600 0 255 ∧ (n0.toInt = x_this_tapeSize.toInt + 4) ∧ (F_X9_putBytes_f_0_1580 (lf_A g_this_tape) (Int32.toInt x_this_tapeSize) (Int32.toInt p0) = ((Int32.toInt n0), (lf_A n1)))) (fun u : Int32 × (Nat → Int32) => match u with | (n0, n1) => [(wo_9_rirrrrrrrrrrrirl a_this a_this_tape n0 a_this_plan a_this_spare a_this_now a_this_history a_this_machine a_this_reader a_this_street a_this_choice a_this_ahead a_this_watch a_this_octets x_this_octetCount a_this_refusals x_this_drawn), (wi_0_1600_0 a_this_tape cy n1)])) := by
  refine k_ofW2 (by decide +kernel) (Nat.le_of_ble_eq_true rfl) ?_
  intro p e s m below meth c A ls H locs args Q hQ C0 hZ hr hlk hin hP hD hA hS hl
  have C0 : k_cx p s m args c cX9_putBytes 3 RX9 dC dI cy sq := C0
  have hx := C0.1
  have hb := C0.2.1
  have hl : lv_has ls 3 [(0, .ref a_this), (1, .int p0)] := hl
  obtain ⟨O, hO⟩ : ∃ o, o = F_X9_putBytes_f_0_1580 (lf_A g_this_tape) (Int32.toInt x_this_tapeSize) (Int32.toInt p0) := ⟨_, rfl⟩
  have hq := hO
  unfold F_X9_putBytes_f_0_1580 at hq
  refine lv_bipush (v := 24) hx hb dX9_putBytes_0 rfl ?_
  refine lv_istore_n (lv' := [(2, .int 24), (0, .ref a_this), (1, .int p0)]) hx hb dX9_putBytes_2 rfl hl (Nat.le_of_ble_eq_true rfl) rfl (fun ls hl => ?_)
  refine lv_iload_n hx hb dX9_putBytes_3 rfl (lv_at hl 0 rfl) ?_
  refine lv_if_lt (tgt := 39) hx hb dX9_putBytes_4 rfl (fun h9 => absurd h9 (by decide)) (fun _ => ?_)
  refine lv_aload_n hx hb dX9_putBytes_7 rfl (lv_at hl 1 rfl) ?_
  refine k_get C0 fg_X9_9 hP 0 rfl rfl dX9_putBytes_8 ?_
  refine lv_aload_n hx hb dX9_putBytes_11 rfl (lv_at hl 1 rfl) ?_
  refine k_get C0 fg_X9_13 hP 0 rfl rfl dX9_putBytes_12 ?_
  refine lv_iload_n hx hb dX9_putBytes_15 rfl (lv_at hl 2 rfl) ?_
  refine lv_iload_n hx hb dX9_putBytes_16 rfl (lv_at hl 0 rfl) ?_
  refine lv_ishr hx hb dX9_putBytes_17 ?_
  refine lv_topi (fun z1 ez1 => ?_)
  have Ez1 := lf_op lf_ishr ez1 (lf_rf p0) (lf_lc 24 (24 : Int) rfl)
  refine lv_sipush (v := 255) hx hb dX9_putBytes_18 rfl ?_
  refine lv_iand hx hb dX9_putBytes_21 ?_
  refine lv_topi (fun z2 ez2 => ?_)
  have h3 : ib z2 0 255 := by rw [ez2]; exact ib_and 8 (by decide) (by decide) 255 (by decide)
  have Ez2 := lf_op lf_iand ez2 Ez1 (lf_lc 255 (255 : Int) rfl)
  refine va_iast hx hb C0.2.2.2.2.2.1 hP hD hS 1 0 rfl rfl (ib_in 1600 hx_this_tapeSize rfl) dX9_putBytes_22 (fun H locs hP hD hS => ?_)
  have h5 := ia_upd hg_this_tape (Int32.toNatClampNeg x_this_tapeSize) (ib_w 0 255 h3 rfl)
  replace hP : va_P (dC, dI) vwCl [(wo_9_rirrrrrrrrrrrirl a_this a_this_tape x_this_tapeSize a_this_plan a_this_spare a_this_now a_this_history a_this_machine a_this_reader a_this_street a_this_choice a_this_ahead a_this_watch a_this_octets x_this_octetCount a_this_refusals x_this_drawn), (wi_0_1600_0 a_this_tape cy (upd g_this_tape (Int32.toNatClampNeg x_this_tapeSize) z2))] H := hP
  as_aux_lemma =>
    replace hD := k_D hP hD
    generalize ef4 : upd g_this_tape (Int32.toNatClampNeg x_this_tapeSize) z2 = f4 at hP hD h5
    have Ef4 := lf_st ef4 (lf_ra g_this_tape) (lf_rf x_this_tapeSize) Ez2
    refine lv_aload_n hx hb dX9_putBytes_23 rfl (lv_at hl 1 rfl) ?_
    refine lv_dup hx hb dX9_putBytes_24 rfl ?_
    refine k_get C0 fg_X9_13 hP 0 rfl rfl dX9_putBytes_25 ?_
    refine lv_iconst (v := 1) hx hb dX9_putBytes_28 rfl ?_
    refine lv_iadd hx hb dX9_putBytes_29 ?_
    refine lv_topi (fun z6 ez6 => ?_)
    have h7 := ib_add hx_this_tapeSize (ib_c 1 1 1 rfl) rfl
    rw [← ez6] at h7
    have h8 : ib z6 1 1581 := ib_w 1 1581 h7.1 rfl
    have Ez6 := lf_add h7.2 (lf_rf x_this_tapeSize) (lf_lc 1 (1 : Int) rfl)
    refine k_put C0 fp_X9_13 hP hD hS 0 rfl rfl rfl (Nat.le_of_ble_eq_true rfl) dX9_putBytes_30 (fun H locs hP hD hS => ?_)
    replace hP : va_P (dC, dI) vwCl [(wo_9_rirrrrrrrrrrrirl a_this a_this_tape z6 a_this_plan a_this_spare a_this_now a_this_history a_this_machine a_this_reader a_this_street a_this_choice a_this_ahead a_this_watch a_this_octets x_this_octetCount a_this_refusals x_this_drawn), (wi_0_1600_0 a_this_tape cy f4)] H := hP
    replace hD := k_D hP hD
    refine lv_iinc (v := 16) (lv' := [(2, .int 16), (0, .ref a_this), (1, .int p0)]) hx hb dX9_putBytes_33 hl (k := 0) rfl (by decide) (Nat.le_of_ble_eq_true rfl) rfl (fun ls hl => ?_)
    refine lv_goto (tgt := 3) hx hb dX9_putBytes_36 rfl ?_
    refine lv_iload_n hx hb dX9_putBytes_3 rfl (lv_at hl 0 rfl) ?_
    refine lv_if_lt (tgt := 39) hx hb dX9_putBytes_4 rfl (fun h9 => absurd h9 (by decide)) (fun _ => ?_)
    refine lv_aload_n hx hb dX9_putBytes_7 rfl (lv_at hl 1 rfl) ?_
    refine k_get C0 fg_X9_9 hP 0 rfl rfl dX9_putBytes_8 ?_
    refine lv_aload_n hx hb dX9_putBytes_11 rfl (lv_at hl 1 rfl) ?_
    refine k_get C0 fg_X9_13 hP 0 rfl rfl dX9_putBytes_12 ?_
    refine lv_iload_n hx hb dX9_putBytes_15 rfl (lv_at hl 2 rfl) ?_
    refine lv_iload_n hx hb dX9_putBytes_16 rfl (lv_at hl 0 rfl) ?_
    refine lv_ishr hx hb dX9_putBytes_17 ?_
    refine lv_topi (fun z9 ez9 => ?_)
    have Ez9 := lf_op lf_ishr ez9 (lf_rf p0) (lf_lc 16 (16 : Int) rfl)
    refine lv_sipush (v := 255) hx hb dX9_putBytes_18 rfl ?_
    as_aux_lemma =>
      refine lv_iand hx hb dX9_putBytes_21 ?_
      refine lv_topi (fun z10 ez10 => ?_)
      have h11 : ib z10 0 255 := by rw [ez10]; exact ib_and 8 (by decide) (by decide) 255 (by decide)
      have Ez10 := lf_op lf_iand ez10 Ez9 (lf_lc 255 (255 : Int) rfl)
      refine va_iast hx hb C0.2.2.2.2.2.1 hP hD hS 1 0 rfl rfl (ib_in 1600 h8 rfl) dX9_putBytes_22 (fun H locs hP hD hS => ?_)
      have h13 := ia_upd h5 (Int32.toNatClampNeg z6) (ib_w 0 255 h11 rfl)
      replace hP : va_P (dC, dI) vwCl [(wo_9_rirrrrrrrrrrrirl a_this a_this_tape z6 a_this_plan a_this_spare a_this_now a_this_history a_this_machine a_this_reader a_this_street a_this_choice a_this_ahead a_this_watch a_this_octets x_this_octetCount a_this_refusals x_this_drawn), (wi_0_1600_0 a_this_tape cy (upd f4 (Int32.toNatClampNeg z6) z10))] H := hP
      replace hD := k_D hP hD
      generalize ef12 : upd f4 (Int32.toNatClampNeg z6) z10 = f12 at hP hD h13
      have Ef12 := lf_st ef12 Ef4 Ez6 Ez10
      refine lv_aload_n hx hb dX9_putBytes_23 rfl (lv_at hl 1 rfl) ?_
      refine lv_dup hx hb dX9_putBytes_24 rfl ?_
      refine k_get C0 fg_X9_13 hP 0 rfl rfl dX9_putBytes_25 ?_
      refine lv_iconst (v := 1) hx hb dX9_putBytes_28 rfl ?_
      refine lv_iadd hx hb dX9_putBytes_29 ?_
      refine lv_topi (fun z14 ez14 => ?_)
      have h15 := ib_add h8 (ib_c 1 1 1 rfl) rfl
      rw [← ez14] at h15
      have h16 : ib z14 2 1582 := ib_w 2 1582 h15.1 rfl
      have Ez14 := lf_add h15.2 Ez6 (lf_lc 1 (1 : Int) rfl)
      refine k_put C0 fp_X9_13 hP hD hS 0 rfl rfl rfl (Nat.le_of_ble_eq_true rfl) dX9_putBytes_30 (fun H locs hP hD hS => ?_)
      replace hP : va_P (dC, dI) vwCl [(wo_9_rirrrrrrrrrrrirl a_this a_this_tape z14 a_this_plan a_this_spare a_this_now a_this_history a_this_machine a_this_reader a_this_street a_this_choice a_this_ahead a_this_watch a_this_octets x_this_octetCount a_this_refusals x_this_drawn), (wi_0_1600_0 a_this_tape cy f12)] H := hP
      replace hD := k_D hP hD
      refine lv_iinc (v := 8) (lv' := [(2, .int 8), (0, .ref a_this), (1, .int p0)]) hx hb dX9_putBytes_33 hl (k := 0) rfl (by decide) (Nat.le_of_ble_eq_true rfl) rfl (fun ls hl => ?_)
      refine lv_goto (tgt := 3) hx hb dX9_putBytes_36 rfl ?_
      refine lv_iload_n hx hb dX9_putBytes_3 rfl (lv_at hl 0 rfl) ?_
      refine lv_if_lt (tgt := 39) hx hb dX9_putBytes_4 rfl (fun h9 => absurd h9 (by decide)) (fun _ => ?_)
      refine lv_aload_n hx hb dX9_putBytes_7 rfl (lv_at hl 1 rfl) ?_
      refine k_get C0 fg_X9_9 hP 0 rfl rfl dX9_putBytes_8 ?_
      refine lv_aload_n hx hb dX9_putBytes_11 rfl (lv_at hl 1 rfl) ?_
      as_aux_lemma =>
        refine k_get C0 fg_X9_13 hP 0 rfl rfl dX9_putBytes_12 ?_
        refine lv_iload_n hx hb dX9_putBytes_15 rfl (lv_at hl 2 rfl) ?_
        refine lv_iload_n hx hb dX9_putBytes_16 rfl (lv_at hl 0 rfl) ?_
        refine lv_ishr hx hb dX9_putBytes_17 ?_
        refine lv_topi (fun z17 ez17 => ?_)
        have Ez17 := lf_op lf_ishr ez17 (lf_rf p0) (lf_lc 8 (8 : Int) rfl)
        refine lv_sipush (v := 255) hx hb dX9_putBytes_18 rfl ?_
        refine lv_iand hx hb dX9_putBytes_21 ?_
        refine lv_topi (fun z18 ez18 => ?_)
        have h19 : ib z18 0 255 := by rw [ez18]; exact ib_and 8 (by decide) (by decide) 255 (by decide)
        have Ez18 := lf_op lf_iand ez18 Ez17 (lf_lc 255 (255 : Int) rfl)
        refine va_iast hx hb C0.2.2.2.2.2.1 hP hD hS 1 0 rfl rfl (ib_in 1600 h16 rfl) dX9_putBytes_22 (fun H locs hP hD hS => ?_)
        have h21 := ia_upd h13 (Int32.toNatClampNeg z14) (ib_w 0 255 h19 rfl)
        replace hP : va_P (dC, dI) vwCl [(wo_9_rirrrrrrrrrrrirl a_this a_this_tape z14 a_this_plan a_this_spare a_this_now a_this_history a_this_machine a_this_reader a_this_street a_this_choice a_this_ahead a_this_watch a_this_octets x_this_octetCount a_this_refusals x_this_drawn), (wi_0_1600_0 a_this_tape cy (upd f12 (Int32.toNatClampNeg z14) z18))] H := hP
        replace hD := k_D hP hD
        generalize ef20 : upd f12 (Int32.toNatClampNeg z14) z18 = f20 at hP hD h21
        have Ef20 := lf_st ef20 Ef12 Ez14 Ez18
        refine lv_aload_n hx hb dX9_putBytes_23 rfl (lv_at hl 1 rfl) ?_
        refine lv_dup hx hb dX9_putBytes_24 rfl ?_
        refine k_get C0 fg_X9_13 hP 0 rfl rfl dX9_putBytes_25 ?_
        refine lv_iconst (v := 1) hx hb dX9_putBytes_28 rfl ?_
        refine lv_iadd hx hb dX9_putBytes_29 ?_
        refine lv_topi (fun z22 ez22 => ?_)
        have h23 := ib_add h16 (ib_c 1 1 1 rfl) rfl
        rw [← ez22] at h23
        have h24 : ib z22 3 1583 := ib_w 3 1583 h23.1 rfl
        have Ez22 := lf_add h23.2 Ez14 (lf_lc 1 (1 : Int) rfl)
        refine k_put C0 fp_X9_13 hP hD hS 0 rfl rfl rfl (Nat.le_of_ble_eq_true rfl) dX9_putBytes_30 (fun H locs hP hD hS => ?_)
        replace hP : va_P (dC, dI) vwCl [(wo_9_rirrrrrrrrrrrirl a_this a_this_tape z22 a_this_plan a_this_spare a_this_now a_this_history a_this_machine a_this_reader a_this_street a_this_choice a_this_ahead a_this_watch a_this_octets x_this_octetCount a_this_refusals x_this_drawn), (wi_0_1600_0 a_this_tape cy f20)] H := hP
        replace hD := k_D hP hD
        as_aux_lemma =>
          refine lv_iinc (v := 0) (lv' := [(2, .int 0), (0, .ref a_this), (1, .int p0)]) hx hb dX9_putBytes_33 hl (k := 0) rfl (by decide) (Nat.le_of_ble_eq_true rfl) rfl (fun ls hl => ?_)
          refine lv_goto (tgt := 3) hx hb dX9_putBytes_36 rfl ?_
          refine lv_iload_n hx hb dX9_putBytes_3 rfl (lv_at hl 0 rfl) ?_
          refine lv_if_lt (tgt := 39) hx hb dX9_putBytes_4 rfl (fun h9 => absurd h9 (by decide)) (fun _ => ?_)
          refine lv_aload_n hx hb dX9_putBytes_7 rfl (lv_at hl 1 rfl) ?_
          refine k_get C0 fg_X9_9 hP 0 rfl rfl dX9_putBytes_8 ?_
          refine lv_aload_n hx hb dX9_putBytes_11 rfl (lv_at hl 1 rfl) ?_
          refine k_get C0 fg_X9_13 hP 0 rfl rfl dX9_putBytes_12 ?_
          refine lv_iload_n hx hb dX9_putBytes_15 rfl (lv_at hl 2 rfl) ?_
          refine lv_iload_n hx hb dX9_putBytes_16 rfl (lv_at hl 0 rfl) ?_
          refine lv_ishr hx hb dX9_putBytes_17 ?_
          refine lv_topi (fun z25 ez25 => ?_)
          have Ez25 := lf_op lf_ishr ez25 (lf_rf p0) (lf_lc 0 (0 : Int) rfl)
          refine lv_sipush (v := 255) hx hb dX9_putBytes_18 rfl ?_
          refine lv_iand hx hb dX9_putBytes_21 ?_
          refine lv_topi (fun z26 ez26 => ?_)
          have h27 : ib z26 0 255 := by rw [ez26]; exact ib_and 8 (by decide) (by decide) 255 (by decide)
          have Ez26 := lf_op lf_iand ez26 Ez25 (lf_lc 255 (255 : Int) rfl)
          refine va_iast hx hb C0.2.2.2.2.2.1 hP hD hS 1 0 rfl rfl (ib_in 1600 h24 rfl) dX9_putBytes_22 (fun H locs hP hD hS => ?_)
          have h29 := ia_upd h21 (Int32.toNatClampNeg z22) (ib_w 0 255 h27 rfl)
          replace hP : va_P (dC, dI) vwCl [(wo_9_rirrrrrrrrrrrirl a_this a_this_tape z22 a_this_plan a_this_spare a_this_now a_this_history a_this_machine a_this_reader a_this_street a_this_choice a_this_ahead a_this_watch a_this_octets x_this_octetCount a_this_refusals x_this_drawn), (wi_0_1600_0 a_this_tape cy (upd f20 (Int32.toNatClampNeg z22) z26))] H := hP
          replace hD := k_D hP hD
          generalize ef28 : upd f20 (Int32.toNatClampNeg z22) z26 = f28 at hP hD h29
          have Ef28 := lf_st ef28 Ef20 Ez22 Ez26
          refine lv_aload_n hx hb dX9_putBytes_23 rfl (lv_at hl 1 rfl) ?_
          refine lv_dup hx hb dX9_putBytes_24 rfl ?_
          refine k_get C0 fg_X9_13 hP 0 rfl rfl dX9_putBytes_25 ?_
          refine lv_iconst (v := 1) hx hb dX9_putBytes_28 rfl ?_
          refine lv_iadd hx hb dX9_putBytes_29 ?_
          refine lv_topi (fun z30 ez30 => ?_)
          have h31 := ib_add h24 (ib_c 1 1 1 rfl) rfl
          rw [← ez30] at h31
          have h32 : ib z30 4 1584 := ib_w 4 1584 h31.1 rfl
          have Ez30 := lf_add h31.2 Ez22 (lf_lc 1 (1 : Int) rfl)
          refine k_put C0 fp_X9_13 hP hD hS 0 rfl rfl rfl (Nat.le_of_ble_eq_true rfl) dX9_putBytes_30 (fun H locs hP hD hS => ?_)
          replace hP : va_P (dC, dI) vwCl [(wo_9_rirrrrrrrrrrrirl a_this a_this_tape z30 a_this_plan a_this_spare a_this_now a_this_history a_this_machine a_this_reader a_this_street a_this_choice a_this_ahead a_this_watch a_this_octets x_this_octetCount a_this_refusals x_this_drawn), (wi_0_1600_0 a_this_tape cy f28)] H := hP
          replace hD := k_D hP hD
          refine lv_iinc (v := (-8)) (lv' := [(2, .int (-8)), (0, .ref a_this), (1, .int p0)]) hx hb dX9_putBytes_33 hl (k := 0) rfl (by decide) (Nat.le_of_ble_eq_true rfl) rfl (fun ls hl => ?_)
          refine lv_goto (tgt := 3) hx hb dX9_putBytes_36 rfl ?_
          refine lv_iload_n hx hb dX9_putBytes_3 rfl (lv_at hl 0 rfl) ?_
          refine lv_if_lt (tgt := 39) hx hb dX9_putBytes_4 rfl (fun _ => ?_) (fun h9 => absurd (by decide) h9)
          subst hQ; exact k_vret hx hb hr hlk ((z30, f28)) hS ⟨ib_w 4 1584 h32 rfl, h29, by have := (hx_this_tapeSize).1; have := (hx_this_tapeSize).2; have := (h32).1; have := (h32).2; have := h31.2; have : (1 : Int32).toInt = 1 := rfl; have := (h24).1; have := (h24).2; have := h23.2; have := (h16).1; have := (h16).2; have := h15.2; have := (h8).1; have := (h8).2; have := h7.2; omega, (hO.symm.trans (by rw [lf_u Ez30]; rw [lf_ua Ef28]; exact hq))⟩ hP hD (Nat.le_of_ble_eq_true rfl) (Nat.le_of_ble_eq_true rfl) dX9_putBytes_39
set_option maxHeartbeats 4000000 in
set_option maxRecDepth 100000 in
theorem s_X9_putBytes_f_0_1584 (l : Launch) (dC : Nat → ClassId) (dI : Nat → Nat → Nat) (cy : Nat → ClassId) (sq : Nat → Nat) (a_this : Nat) (a_this_tape : Nat) (g_this_tape : Nat → Int32) (x_this_tapeSize : Int32) (a_this_plan : Nat) (a_this_spare : Nat) (a_this_now : Nat) (a_this_history : Nat) (a_this_machine : Nat) (a_this_reader : Nat) (a_this_street : Nat) (a_this_choice : Nat) (a_this_ahead : Nat) (a_this_watch : Nat) (a_this_octets : Nat) (x_this_octetCount : Int32) (a_this_refusals : Nat) (x_this_drawn : Int64) (p0 : Int32) (hg_this_tape : ia g_this_tape 1600 0 255) (hx_this_tapeSize : ib x_this_tapeSize 0 1584) : k_Met l yX9_putBytes cX9_putBytes 3 none { frames := 0, cells := 0, slots := 0, locals := 0 } dC dI cy sq [.ref a_this, .int p0] [(wo_9_rirrrrrrrrrrrirl a_this a_this_tape x_this_tapeSize a_this_plan a_this_spare a_this_now a_this_history a_this_machine a_this_reader a_this_street a_this_choice a_this_ahead a_this_watch a_this_octets x_this_octetCount a_this_refusals x_this_drawn), (wi_0_1600_0 a_this_tape cy g_this_tape)] (k_Qv dC dI (fun (u : Int32 × (Nat → Int32)) => match u with | (n0, n1) => ib n0 4 1588 ∧ ia n1 1600 0 255 ∧ (n0.toInt = x_this_tapeSize.toInt + 4) ∧ (F_X9_putBytes_f_0_1584 (lf_A g_this_tape) (Int32.toInt x_this_tapeSize) (Int32.toInt p0) = ((Int32.toInt n0), (lf_A n1)))) (fun u : Int32 × (Nat → Int32) => match u with | (n0, n1) => [(wo_9_rirrrrrrrrrrrirl a_this a_this_tape n0 a_this_plan a_this_spare a_this_now a_this_history a_this_machine a_this_reader a_this_street a_this_choice a_this_ahead a_this_watch a_this_octets x_this_octetCount a_this_refusals x_this_drawn), (wi_0_1600_0 a_this_tape cy n1)])) := by
  refine k_ofW2 (by decide +kernel) (Nat.le_of_ble_eq_true rfl) ?_
  intro p e s m below meth c A ls H locs args Q hQ C0 hZ hr hlk hin hP hD hA hS hl
  have C0 : k_cx p s m args c cX9_putBytes 3 RX9 dC dI cy sq := C0
  have hx := C0.1
  have hb := C0.2.1
  have hl : lv_has ls 3 [(0, .ref a_this), (1, .int p0)] := hl
  obtain ⟨O, hO⟩ : ∃ o, o = F_X9_putBytes_f_0_1584 (lf_A g_this_tape) (Int32.toInt x_this_tapeSize) (Int32.toInt p0) := ⟨_, rfl⟩
  have hq := hO
  unfold F_X9_putBytes_f_0_1584 at hq
  refine lv_bipush (v := 24) hx hb dX9_putBytes_0 rfl ?_
  refine lv_istore_n (lv' := [(2, .int 24), (0, .ref a_this), (1, .int p0)]) hx hb dX9_putBytes_2 rfl hl (Nat.le_of_ble_eq_true rfl) rfl (fun ls hl => ?_)
  refine lv_iload_n hx hb dX9_putBytes_3 rfl (lv_at hl 0 rfl) ?_
  refine lv_if_lt (tgt := 39) hx hb dX9_putBytes_4 rfl (fun h9 => absurd h9 (by decide)) (fun _ => ?_)
  refine lv_aload_n hx hb dX9_putBytes_7 rfl (lv_at hl 1 rfl) ?_
  refine k_get C0 fg_X9_9 hP 0 rfl rfl dX9_putBytes_8 ?_
  refine lv_aload_n hx hb dX9_putBytes_11 rfl (lv_at hl 1 rfl) ?_
  refine k_get C0 fg_X9_13 hP 0 rfl rfl dX9_putBytes_12 ?_
  refine lv_iload_n hx hb dX9_putBytes_15 rfl (lv_at hl 2 rfl) ?_
  refine lv_iload_n hx hb dX9_putBytes_16 rfl (lv_at hl 0 rfl) ?_
  refine lv_ishr hx hb dX9_putBytes_17 ?_
  refine lv_topi (fun z1 ez1 => ?_)
  have Ez1 := lf_op lf_ishr ez1 (lf_rf p0) (lf_lc 24 (24 : Int) rfl)
  refine lv_sipush (v := 255) hx hb dX9_putBytes_18 rfl ?_
  refine lv_iand hx hb dX9_putBytes_21 ?_
  refine lv_topi (fun z2 ez2 => ?_)
  have h3 : ib z2 0 255 := by rw [ez2]; exact ib_and 8 (by decide) (by decide) 255 (by decide)
  have Ez2 := lf_op lf_iand ez2 Ez1 (lf_lc 255 (255 : Int) rfl)
  refine va_iast hx hb C0.2.2.2.2.2.1 hP hD hS 1 0 rfl rfl (ib_in 1600 hx_this_tapeSize rfl) dX9_putBytes_22 (fun H locs hP hD hS => ?_)
  have h5 := ia_upd hg_this_tape (Int32.toNatClampNeg x_this_tapeSize) (ib_w 0 255 h3 rfl)
  replace hP : va_P (dC, dI) vwCl [(wo_9_rirrrrrrrrrrrirl a_this a_this_tape x_this_tapeSize a_this_plan a_this_spare a_this_now a_this_history a_this_machine a_this_reader a_this_street a_this_choice a_this_ahead a_this_watch a_this_octets x_this_octetCount a_this_refusals x_this_drawn), (wi_0_1600_0 a_this_tape cy (upd g_this_tape (Int32.toNatClampNeg x_this_tapeSize) z2))] H := hP
  as_aux_lemma =>
    replace hD := k_D hP hD
    generalize ef4 : upd g_this_tape (Int32.toNatClampNeg x_this_tapeSize) z2 = f4 at hP hD h5
    have Ef4 := lf_st ef4 (lf_ra g_this_tape) (lf_rf x_this_tapeSize) Ez2
    refine lv_aload_n hx hb dX9_putBytes_23 rfl (lv_at hl 1 rfl) ?_
    refine lv_dup hx hb dX9_putBytes_24 rfl ?_
    refine k_get C0 fg_X9_13 hP 0 rfl rfl dX9_putBytes_25 ?_
    refine lv_iconst (v := 1) hx hb dX9_putBytes_28 rfl ?_
    refine lv_iadd hx hb dX9_putBytes_29 ?_
    refine lv_topi (fun z6 ez6 => ?_)
    have h7 := ib_add hx_this_tapeSize (ib_c 1 1 1 rfl) rfl
    rw [← ez6] at h7
    have h8 : ib z6 1 1585 := ib_w 1 1585 h7.1 rfl
    have Ez6 := lf_add h7.2 (lf_rf x_this_tapeSize) (lf_lc 1 (1 : Int) rfl)
    refine k_put C0 fp_X9_13 hP hD hS 0 rfl rfl rfl (Nat.le_of_ble_eq_true rfl) dX9_putBytes_30 (fun H locs hP hD hS => ?_)
    replace hP : va_P (dC, dI) vwCl [(wo_9_rirrrrrrrrrrrirl a_this a_this_tape z6 a_this_plan a_this_spare a_this_now a_this_history a_this_machine a_this_reader a_this_street a_this_choice a_this_ahead a_this_watch a_this_octets x_this_octetCount a_this_refusals x_this_drawn), (wi_0_1600_0 a_this_tape cy f4)] H := hP
    replace hD := k_D hP hD
    refine lv_iinc (v := 16) (lv' := [(2, .int 16), (0, .ref a_this), (1, .int p0)]) hx hb dX9_putBytes_33 hl (k := 0) rfl (by decide) (Nat.le_of_ble_eq_true rfl) rfl (fun ls hl => ?_)
    refine lv_goto (tgt := 3) hx hb dX9_putBytes_36 rfl ?_
    refine lv_iload_n hx hb dX9_putBytes_3 rfl (lv_at hl 0 rfl) ?_
    refine lv_if_lt (tgt := 39) hx hb dX9_putBytes_4 rfl (fun h9 => absurd h9 (by decide)) (fun _ => ?_)
    refine lv_aload_n hx hb dX9_putBytes_7 rfl (lv_at hl 1 rfl) ?_
    refine k_get C0 fg_X9_9 hP 0 rfl rfl dX9_putBytes_8 ?_
    refine lv_aload_n hx hb dX9_putBytes_11 rfl (lv_at hl 1 rfl) ?_
    refine k_get C0 fg_X9_13 hP 0 rfl rfl dX9_putBytes_12 ?_
    refine lv_iload_n hx hb dX9_putBytes_15 rfl (lv_at hl 2 rfl) ?_
    refine lv_iload_n hx hb dX9_putBytes_16 rfl (lv_at hl 0 rfl) ?_
    refine lv_ishr hx hb dX9_putBytes_17 ?_
    refine lv_topi (fun z9 ez9 => ?_)
    have Ez9 := lf_op lf_ishr ez9 (lf_rf p0) (lf_lc 16 (16 : Int) rfl)
    refine lv_sipush (v := 255) hx hb dX9_putBytes_18 rfl ?_
    as_aux_lemma =>
      refine lv_iand hx hb dX9_putBytes_21 ?_
      refine lv_topi (fun z10 ez10 => ?_)
      have h11 : ib z10 0 255 := by rw [ez10]; exact ib_and 8 (by decide) (by decide) 255 (by decide)
      have Ez10 := lf_op lf_iand ez10 Ez9 (lf_lc 255 (255 : Int) rfl)
      refine va_iast hx hb C0.2.2.2.2.2.1 hP hD hS 1 0 rfl rfl (ib_in 1600 h8 rfl) dX9_putBytes_22 (fun H locs hP hD hS => ?_)
      have h13 := ia_upd h5 (Int32.toNatClampNeg z6) (ib_w 0 255 h11 rfl)
      replace hP : va_P (dC, dI) vwCl [(wo_9_rirrrrrrrrrrrirl a_this a_this_tape z6 a_this_plan a_this_spare a_this_now a_this_history a_this_machine a_this_reader a_this_street a_this_choice a_this_ahead a_this_watch a_this_octets x_this_octetCount a_this_refusals x_this_drawn), (wi_0_1600_0 a_this_tape cy (upd f4 (Int32.toNatClampNeg z6) z10))] H := hP
      replace hD := k_D hP hD
      generalize ef12 : upd f4 (Int32.toNatClampNeg z6) z10 = f12 at hP hD h13
      have Ef12 := lf_st ef12 Ef4 Ez6 Ez10
      refine lv_aload_n hx hb dX9_putBytes_23 rfl (lv_at hl 1 rfl) ?_
      refine lv_dup hx hb dX9_putBytes_24 rfl ?_
      refine k_get C0 fg_X9_13 hP 0 rfl rfl dX9_putBytes_25 ?_
      refine lv_iconst (v := 1) hx hb dX9_putBytes_28 rfl ?_
      refine lv_iadd hx hb dX9_putBytes_29 ?_
      refine lv_topi (fun z14 ez14 => ?_)
      have h15 := ib_add h8 (ib_c 1 1 1 rfl) rfl
      rw [← ez14] at h15
      have h16 : ib z14 2 1586 := ib_w 2 1586 h15.1 rfl
      have Ez14 := lf_add h15.2 Ez6 (lf_lc 1 (1 : Int) rfl)
      refine k_put C0 fp_X9_13 hP hD hS 0 rfl rfl rfl (Nat.le_of_ble_eq_true rfl) dX9_putBytes_30 (fun H locs hP hD hS => ?_)
      replace hP : va_P (dC, dI) vwCl [(wo_9_rirrrrrrrrrrrirl a_this a_this_tape z14 a_this_plan a_this_spare a_this_now a_this_history a_this_machine a_this_reader a_this_street a_this_choice a_this_ahead a_this_watch a_this_octets x_this_octetCount a_this_refusals x_this_drawn), (wi_0_1600_0 a_this_tape cy f12)] H := hP
      replace hD := k_D hP hD
      refine lv_iinc (v := 8) (lv' := [(2, .int 8), (0, .ref a_this), (1, .int p0)]) hx hb dX9_putBytes_33 hl (k := 0) rfl (by decide) (Nat.le_of_ble_eq_true rfl) rfl (fun ls hl => ?_)
      refine lv_goto (tgt := 3) hx hb dX9_putBytes_36 rfl ?_
      refine lv_iload_n hx hb dX9_putBytes_3 rfl (lv_at hl 0 rfl) ?_
      refine lv_if_lt (tgt := 39) hx hb dX9_putBytes_4 rfl (fun h9 => absurd h9 (by decide)) (fun _ => ?_)
      refine lv_aload_n hx hb dX9_putBytes_7 rfl (lv_at hl 1 rfl) ?_
      refine k_get C0 fg_X9_9 hP 0 rfl rfl dX9_putBytes_8 ?_
      refine lv_aload_n hx hb dX9_putBytes_11 rfl (lv_at hl 1 rfl) ?_
      as_aux_lemma =>
        refine k_get C0 fg_X9_13 hP 0 rfl rfl dX9_putBytes_12 ?_
        refine lv_iload_n hx hb dX9_putBytes_15 rfl (lv_at hl 2 rfl) ?_
        refine lv_iload_n hx hb dX9_putBytes_16 rfl (lv_at hl 0 rfl) ?_
        refine lv_ishr hx hb dX9_putBytes_17 ?_
        refine lv_topi (fun z17 ez17 => ?_)
        have Ez17 := lf_op lf_ishr ez17 (lf_rf p0) (lf_lc 8 (8 : Int) rfl)
        refine lv_sipush (v := 255) hx hb dX9_putBytes_18 rfl ?_
        refine lv_iand hx hb dX9_putBytes_21 ?_
        refine lv_topi (fun z18 ez18 => ?_)
        have h19 : ib z18 0 255 := by rw [ez18]; exact ib_and 8 (by decide) (by decide) 255 (by decide)
        have Ez18 := lf_op lf_iand ez18 Ez17 (lf_lc 255 (255 : Int) rfl)
        refine va_iast hx hb C0.2.2.2.2.2.1 hP hD hS 1 0 rfl rfl (ib_in 1600 h16 rfl) dX9_putBytes_22 (fun H locs hP hD hS => ?_)
        have h21 := ia_upd h13 (Int32.toNatClampNeg z14) (ib_w 0 255 h19 rfl)
        replace hP : va_P (dC, dI) vwCl [(wo_9_rirrrrrrrrrrrirl a_this a_this_tape z14 a_this_plan a_this_spare a_this_now a_this_history a_this_machine a_this_reader a_this_street a_this_choice a_this_ahead a_this_watch a_this_octets x_this_octetCount a_this_refusals x_this_drawn), (wi_0_1600_0 a_this_tape cy (upd f12 (Int32.toNatClampNeg z14) z18))] H := hP
        replace hD := k_D hP hD
        generalize ef20 : upd f12 (Int32.toNatClampNeg z14) z18 = f20 at hP hD h21
        have Ef20 := lf_st ef20 Ef12 Ez14 Ez18
        refine lv_aload_n hx hb dX9_putBytes_23 rfl (lv_at hl 1 rfl) ?_
        refine lv_dup hx hb dX9_putBytes_24 rfl ?_
        refine k_get C0 fg_X9_13 hP 0 rfl rfl dX9_putBytes_25 ?_
        refine lv_iconst (v := 1) hx hb dX9_putBytes_28 rfl ?_
        refine lv_iadd hx hb dX9_putBytes_29 ?_
        refine lv_topi (fun z22 ez22 => ?_)
        have h23 := ib_add h16 (ib_c 1 1 1 rfl) rfl
        rw [← ez22] at h23
        have h24 : ib z22 3 1587 := ib_w 3 1587 h23.1 rfl
        have Ez22 := lf_add h23.2 Ez14 (lf_lc 1 (1 : Int) rfl)
        refine k_put C0 fp_X9_13 hP hD hS 0 rfl rfl rfl (Nat.le_of_ble_eq_true rfl) dX9_putBytes_30 (fun H locs hP hD hS => ?_)
        replace hP : va_P (dC, dI) vwCl [(wo_9_rirrrrrrrrrrrirl a_this a_this_tape z22 a_this_plan a_this_spare a_this_now a_this_history a_this_machine a_this_reader a_this_street a_this_choice a_this_ahead a_this_watch a_this_octets x_this_octetCount a_this_refusals x_this_drawn), (wi_0_1600_0 a_this_tape cy f20)] H := hP
        replace hD := k_D hP hD
        as_aux_lemma =>
          refine lv_iinc (v := 0) (lv' := [(2, .int 0), (0, .ref a_this), (1, .int p0)]) hx hb dX9_putBytes_33 hl (k := 0) rfl (by decide) (Nat.le_of_ble_eq_true rfl) rfl (fun ls hl => ?_)
          refine lv_goto (tgt := 3) hx hb dX9_putBytes_36 rfl ?_
          refine lv_iload_n hx hb dX9_putBytes_3 rfl (lv_at hl 0 rfl) ?_
          refine lv_if_lt (tgt := 39) hx hb dX9_putBytes_4 rfl (fun h9 => absurd h9 (by decide)) (fun _ => ?_)
          refine lv_aload_n hx hb dX9_putBytes_7 rfl (lv_at hl 1 rfl) ?_
          refine k_get C0 fg_X9_9 hP 0 rfl rfl dX9_putBytes_8 ?_
          refine lv_aload_n hx hb dX9_putBytes_11 rfl (lv_at hl 1 rfl) ?_
          refine k_get C0 fg_X9_13 hP 0 rfl rfl dX9_putBytes_12 ?_
          refine lv_iload_n hx hb dX9_putBytes_15 rfl (lv_at hl 2 rfl) ?_
          refine lv_iload_n hx hb dX9_putBytes_16 rfl (lv_at hl 0 rfl) ?_
          refine lv_ishr hx hb dX9_putBytes_17 ?_
          refine lv_topi (fun z25 ez25 => ?_)
          have Ez25 := lf_op lf_ishr ez25 (lf_rf p0) (lf_lc 0 (0 : Int) rfl)
          refine lv_sipush (v := 255) hx hb dX9_putBytes_18 rfl ?_
          refine lv_iand hx hb dX9_putBytes_21 ?_
          refine lv_topi (fun z26 ez26 => ?_)
          have h27 : ib z26 0 255 := by rw [ez26]; exact ib_and 8 (by decide) (by decide) 255 (by decide)
          have Ez26 := lf_op lf_iand ez26 Ez25 (lf_lc 255 (255 : Int) rfl)
          refine va_iast hx hb C0.2.2.2.2.2.1 hP hD hS 1 0 rfl rfl (ib_in 1600 h24 rfl) dX9_putBytes_22 (fun H locs hP hD hS => ?_)
          have h29 := ia_upd h21 (Int32.toNatClampNeg z22) (ib_w 0 255 h27 rfl)
          replace hP : va_P (dC, dI) vwCl [(wo_9_rirrrrrrrrrrrirl a_this a_this_tape z22 a_this_plan a_this_spare a_this_now a_this_history a_this_machine a_this_reader a_this_street a_this_choice a_this_ahead a_this_watch a_this_octets x_this_octetCount a_this_refusals x_this_drawn), (wi_0_1600_0 a_this_tape cy (upd f20 (Int32.toNatClampNeg z22) z26))] H := hP
          replace hD := k_D hP hD
          generalize ef28 : upd f20 (Int32.toNatClampNeg z22) z26 = f28 at hP hD h29
          have Ef28 := lf_st ef28 Ef20 Ez22 Ez26
          refine lv_aload_n hx hb dX9_putBytes_23 rfl (lv_at hl 1 rfl) ?_
          refine lv_dup hx hb dX9_putBytes_24 rfl ?_
          refine k_get C0 fg_X9_13 hP 0 rfl rfl dX9_putBytes_25 ?_
          refine lv_iconst (v := 1) hx hb dX9_putBytes_28 rfl ?_
          refine lv_iadd hx hb dX9_putBytes_29 ?_
          refine lv_topi (fun z30 ez30 => ?_)
          have h31 := ib_add h24 (ib_c 1 1 1 rfl) rfl
          rw [← ez30] at h31
          have h32 : ib z30 4 1588 := ib_w 4 1588 h31.1 rfl
          have Ez30 := lf_add h31.2 Ez22 (lf_lc 1 (1 : Int) rfl)
          refine k_put C0 fp_X9_13 hP hD hS 0 rfl rfl rfl (Nat.le_of_ble_eq_true rfl) dX9_putBytes_30 (fun H locs hP hD hS => ?_)
          replace hP : va_P (dC, dI) vwCl [(wo_9_rirrrrrrrrrrrirl a_this a_this_tape z30 a_this_plan a_this_spare a_this_now a_this_history a_this_machine a_this_reader a_this_street a_this_choice a_this_ahead a_this_watch a_this_octets x_this_octetCount a_this_refusals x_this_drawn), (wi_0_1600_0 a_this_tape cy f28)] H := hP
          replace hD := k_D hP hD
          refine lv_iinc (v := (-8)) (lv' := [(2, .int (-8)), (0, .ref a_this), (1, .int p0)]) hx hb dX9_putBytes_33 hl (k := 0) rfl (by decide) (Nat.le_of_ble_eq_true rfl) rfl (fun ls hl => ?_)
          refine lv_goto (tgt := 3) hx hb dX9_putBytes_36 rfl ?_
          refine lv_iload_n hx hb dX9_putBytes_3 rfl (lv_at hl 0 rfl) ?_
          refine lv_if_lt (tgt := 39) hx hb dX9_putBytes_4 rfl (fun _ => ?_) (fun h9 => absurd (by decide) h9)
          subst hQ; exact k_vret hx hb hr hlk ((z30, f28)) hS ⟨ib_w 4 1588 h32 rfl, h29, by have := (hx_this_tapeSize).1; have := (hx_this_tapeSize).2; have := (h32).1; have := (h32).2; have := h31.2; have : (1 : Int32).toInt = 1 := rfl; have := (h24).1; have := (h24).2; have := h23.2; have := (h16).1; have := (h16).2; have := h15.2; have := (h8).1; have := (h8).2; have := h7.2; omega, (hO.symm.trans (by rw [lf_u Ez30]; rw [lf_ua Ef28]; exact hq))⟩ hP hD (Nat.le_of_ble_eq_true rfl) (Nat.le_of_ble_eq_true rfl) dX9_putBytes_39
set_option maxHeartbeats 4000000 in
set_option maxRecDepth 100000 in
theorem s_X9_putBytes_f_0_1588 (l : Launch) (dC : Nat → ClassId) (dI : Nat → Nat → Nat) (cy : Nat → ClassId) (sq : Nat → Nat) (a_this : Nat) (a_this_tape : Nat) (g_this_tape : Nat → Int32) (x_this_tapeSize : Int32) (a_this_plan : Nat) (a_this_spare : Nat) (a_this_now : Nat) (a_this_history : Nat) (a_this_machine : Nat) (a_this_reader : Nat) (a_this_street : Nat) (a_this_choice : Nat) (a_this_ahead : Nat) (a_this_watch : Nat) (a_this_octets : Nat) (x_this_octetCount : Int32) (a_this_refusals : Nat) (x_this_drawn : Int64) (p0 : Int32) (hg_this_tape : ia g_this_tape 1600 0 255) (hx_this_tapeSize : ib x_this_tapeSize 0 1588) : k_Met l yX9_putBytes cX9_putBytes 3 none { frames := 0, cells := 0, slots := 0, locals := 0 } dC dI cy sq [.ref a_this, .int p0] [(wo_9_rirrrrrrrrrrrirl a_this a_this_tape x_this_tapeSize a_this_plan a_this_spare a_this_now a_this_history a_this_machine a_this_reader a_this_street a_this_choice a_this_ahead a_this_watch a_this_octets x_this_octetCount a_this_refusals x_this_drawn), (wi_0_1600_0 a_this_tape cy g_this_tape)] (k_Qv dC dI (fun (u : Int32 × (Nat → Int32)) => match u with | (n0, n1) => ib n0 4 1592 ∧ ia n1 1600 0 255 ∧ (n0.toInt = x_this_tapeSize.toInt + 4) ∧ (F_X9_putBytes_f_0_1588 (lf_A g_this_tape) (Int32.toInt x_this_tapeSize) (Int32.toInt p0) = ((Int32.toInt n0), (lf_A n1)))) (fun u : Int32 × (Nat → Int32) => match u with | (n0, n1) => [(wo_9_rirrrrrrrrrrrirl a_this a_this_tape n0 a_this_plan a_this_spare a_this_now a_this_history a_this_machine a_this_reader a_this_street a_this_choice a_this_ahead a_this_watch a_this_octets x_this_octetCount a_this_refusals x_this_drawn), (wi_0_1600_0 a_this_tape cy n1)])) := by
  refine k_ofW2 (by decide +kernel) (Nat.le_of_ble_eq_true rfl) ?_
  intro p e s m below meth c A ls H locs args Q hQ C0 hZ hr hlk hin hP hD hA hS hl
  have C0 : k_cx p s m args c cX9_putBytes 3 RX9 dC dI cy sq := C0
  have hx := C0.1
  have hb := C0.2.1
  have hl : lv_has ls 3 [(0, .ref a_this), (1, .int p0)] := hl
  obtain ⟨O, hO⟩ : ∃ o, o = F_X9_putBytes_f_0_1588 (lf_A g_this_tape) (Int32.toInt x_this_tapeSize) (Int32.toInt p0) := ⟨_, rfl⟩
  have hq := hO
  unfold F_X9_putBytes_f_0_1588 at hq
  refine lv_bipush (v := 24) hx hb dX9_putBytes_0 rfl ?_
  refine lv_istore_n (lv' := [(2, .int 24), (0, .ref a_this), (1, .int p0)]) hx hb dX9_putBytes_2 rfl hl (Nat.le_of_ble_eq_true rfl) rfl (fun ls hl => ?_)
  refine lv_iload_n hx hb dX9_putBytes_3 rfl (lv_at hl 0 rfl) ?_
  refine lv_if_lt (tgt := 39) hx hb dX9_putBytes_4 rfl (fun h9 => absurd h9 (by decide)) (fun _ => ?_)
  refine lv_aload_n hx hb dX9_putBytes_7 rfl (lv_at hl 1 rfl) ?_
  refine k_get C0 fg_X9_9 hP 0 rfl rfl dX9_putBytes_8 ?_
  refine lv_aload_n hx hb dX9_putBytes_11 rfl (lv_at hl 1 rfl) ?_
  refine k_get C0 fg_X9_13 hP 0 rfl rfl dX9_putBytes_12 ?_
  refine lv_iload_n hx hb dX9_putBytes_15 rfl (lv_at hl 2 rfl) ?_
  refine lv_iload_n hx hb dX9_putBytes_16 rfl (lv_at hl 0 rfl) ?_
  refine lv_ishr hx hb dX9_putBytes_17 ?_
  refine lv_topi (fun z1 ez1 => ?_)
  have Ez1 := lf_op lf_ishr ez1 (lf_rf p0) (lf_lc 24 (24 : Int) rfl)
  refine lv_sipush (v := 255) hx hb dX9_putBytes_18 rfl ?_
  refine lv_iand hx hb dX9_putBytes_21 ?_
  refine lv_topi (fun z2 ez2 => ?_)
  have h3 : ib z2 0 255 := by rw [ez2]; exact ib_and 8 (by decide) (by decide) 255 (by decide)
  have Ez2 := lf_op lf_iand ez2 Ez1 (lf_lc 255 (255 : Int) rfl)
  refine va_iast hx hb C0.2.2.2.2.2.1 hP hD hS 1 0 rfl rfl (ib_in 1600 hx_this_tapeSize rfl) dX9_putBytes_22 (fun H locs hP hD hS => ?_)
  have h5 := ia_upd hg_this_tape (Int32.toNatClampNeg x_this_tapeSize) (ib_w 0 255 h3 rfl)
  replace hP : va_P (dC, dI) vwCl [(wo_9_rirrrrrrrrrrrirl a_this a_this_tape x_this_tapeSize a_this_plan a_this_spare a_this_now a_this_history a_this_machine a_this_reader a_this_street a_this_choice a_this_ahead a_this_watch a_this_octets x_this_octetCount a_this_refusals x_this_drawn), (wi_0_1600_0 a_this_tape cy (upd g_this_tape (Int32.toNatClampNeg x_this_tapeSize) z2))] H := hP
  as_aux_lemma =>
    replace hD := k_D hP hD
    generalize ef4 : upd g_this_tape (Int32.toNatClampNeg x_this_tapeSize) z2 = f4 at hP hD h5
    have Ef4 := lf_st ef4 (lf_ra g_this_tape) (lf_rf x_this_tapeSize) Ez2
    refine lv_aload_n hx hb dX9_putBytes_23 rfl (lv_at hl 1 rfl) ?_
    refine lv_dup hx hb dX9_putBytes_24 rfl ?_
    refine k_get C0 fg_X9_13 hP 0 rfl rfl dX9_putBytes_25 ?_
    refine lv_iconst (v := 1) hx hb dX9_putBytes_28 rfl ?_
    refine lv_iadd hx hb dX9_putBytes_29 ?_
    refine lv_topi (fun z6 ez6 => ?_)
    have h7 := ib_add hx_this_tapeSize (ib_c 1 1 1 rfl) rfl
    rw [← ez6] at h7
    have h8 : ib z6 1 1589 := ib_w 1 1589 h7.1 rfl
    have Ez6 := lf_add h7.2 (lf_rf x_this_tapeSize) (lf_lc 1 (1 : Int) rfl)
    refine k_put C0 fp_X9_13 hP hD hS 0 rfl rfl rfl (Nat.le_of_ble_eq_true rfl) dX9_putBytes_30 (fun H locs hP hD hS => ?_)
    replace hP : va_P (dC, dI) vwCl [(wo_9_rirrrrrrrrrrrirl a_this a_this_tape z6 a_this_plan a_this_spare a_this_now a_this_history a_this_machine a_this_reader a_this_street a_this_choice a_this_ahead a_this_watch a_this_octets x_this_octetCount a_this_refusals x_this_drawn), (wi_0_1600_0 a_this_tape cy f4)] H := hP
    replace hD := k_D hP hD
    refine lv_iinc (v := 16) (lv' := [(2, .int 16), (0, .ref a_this), (1, .int p0)]) hx hb dX9_putBytes_33 hl (k := 0) rfl (by decide) (Nat.le_of_ble_eq_true rfl) rfl (fun ls hl => ?_)
    refine lv_goto (tgt := 3) hx hb dX9_putBytes_36 rfl ?_
    refine lv_iload_n hx hb dX9_putBytes_3 rfl (lv_at hl 0 rfl) ?_
    refine lv_if_lt (tgt := 39) hx hb dX9_putBytes_4 rfl (fun h9 => absurd h9 (by decide)) (fun _ => ?_)
    refine lv_aload_n hx hb dX9_putBytes_7 rfl (lv_at hl 1 rfl) ?_
    refine k_get C0 fg_X9_9 hP 0 rfl rfl dX9_putBytes_8 ?_
    refine lv_aload_n hx hb dX9_putBytes_11 rfl (lv_at hl 1 rfl) ?_
    refine k_get C0 fg_X9_13 hP 0 rfl rfl dX9_putBytes_12 ?_
    refine lv_iload_n hx hb dX9_putBytes_15 rfl (lv_at hl 2 rfl) ?_
    refine lv_iload_n hx hb dX9_putBytes_16 rfl (lv_at hl 0 rfl) ?_
    refine lv_ishr hx hb dX9_putBytes_17 ?_
    refine lv_topi (fun z9 ez9 => ?_)
    have Ez9 := lf_op lf_ishr ez9 (lf_rf p0) (lf_lc 16 (16 : Int) rfl)
    refine lv_sipush (v := 255) hx hb dX9_putBytes_18 rfl ?_
    as_aux_lemma =>
      refine lv_iand hx hb dX9_putBytes_21 ?_
      refine lv_topi (fun z10 ez10 => ?_)
      have h11 : ib z10 0 255 := by rw [ez10]; exact ib_and 8 (by decide) (by decide) 255 (by decide)
      have Ez10 := lf_op lf_iand ez10 Ez9 (lf_lc 255 (255 : Int) rfl)
      refine va_iast hx hb C0.2.2.2.2.2.1 hP hD hS 1 0 rfl rfl (ib_in 1600 h8 rfl) dX9_putBytes_22 (fun H locs hP hD hS => ?_)
      have h13 := ia_upd h5 (Int32.toNatClampNeg z6) (ib_w 0 255 h11 rfl)
      replace hP : va_P (dC, dI) vwCl [(wo_9_rirrrrrrrrrrrirl a_this a_this_tape z6 a_this_plan a_this_spare a_this_now a_this_history a_this_machine a_this_reader a_this_street a_this_choice a_this_ahead a_this_watch a_this_octets x_this_octetCount a_this_refusals x_this_drawn), (wi_0_1600_0 a_this_tape cy (upd f4 (Int32.toNatClampNeg z6) z10))] H := hP
      replace hD := k_D hP hD
      generalize ef12 : upd f4 (Int32.toNatClampNeg z6) z10 = f12 at hP hD h13
      have Ef12 := lf_st ef12 Ef4 Ez6 Ez10
      refine lv_aload_n hx hb dX9_putBytes_23 rfl (lv_at hl 1 rfl) ?_
      refine lv_dup hx hb dX9_putBytes_24 rfl ?_
      refine k_get C0 fg_X9_13 hP 0 rfl rfl dX9_putBytes_25 ?_
      refine lv_iconst (v := 1) hx hb dX9_putBytes_28 rfl ?_
      refine lv_iadd hx hb dX9_putBytes_29 ?_
      refine lv_topi (fun z14 ez14 => ?_)
      have h15 := ib_add h8 (ib_c 1 1 1 rfl) rfl
      rw [← ez14] at h15
      have h16 : ib z14 2 1590 := ib_w 2 1590 h15.1 rfl
      have Ez14 := lf_add h15.2 Ez6 (lf_lc 1 (1 : Int) rfl)
      refine k_put C0 fp_X9_13 hP hD hS 0 rfl rfl rfl (Nat.le_of_ble_eq_true rfl) dX9_putBytes_30 (fun H locs hP hD hS => ?_)
      replace hP : va_P (dC, dI) vwCl [(wo_9_rirrrrrrrrrrrirl a_this a_this_tape z14 a_this_plan a_this_spare a_this_now a_this_history a_this_machine a_this_reader a_this_street a_this_choice a_this_ahead a_this_watch a_this_octets x_this_octetCount a_this_refusals x_this_drawn), (wi_0_1600_0 a_this_tape cy f12)] H := hP
      replace hD := k_D hP hD
      refine lv_iinc (v := 8) (lv' := [(2, .int 8), (0, .ref a_this), (1, .int p0)]) hx hb dX9_putBytes_33 hl (k := 0) rfl (by decide) (Nat.le_of_ble_eq_true rfl) rfl (fun ls hl => ?_)
      refine lv_goto (tgt := 3) hx hb dX9_putBytes_36 rfl ?_
      refine lv_iload_n hx hb dX9_putBytes_3 rfl (lv_at hl 0 rfl) ?_
      refine lv_if_lt (tgt := 39) hx hb dX9_putBytes_4 rfl (fun h9 => absurd h9 (by decide)) (fun _ => ?_)
      refine lv_aload_n hx hb dX9_putBytes_7 rfl (lv_at hl 1 rfl) ?_
      refine k_get C0 fg_X9_9 hP 0 rfl rfl dX9_putBytes_8 ?_
      refine lv_aload_n hx hb dX9_putBytes_11 rfl (lv_at hl 1 rfl) ?_
      as_aux_lemma =>
        refine k_get C0 fg_X9_13 hP 0 rfl rfl dX9_putBytes_12 ?_
        refine lv_iload_n hx hb dX9_putBytes_15 rfl (lv_at hl 2 rfl) ?_
        refine lv_iload_n hx hb dX9_putBytes_16 rfl (lv_at hl 0 rfl) ?_
        refine lv_ishr hx hb dX9_putBytes_17 ?_
        refine lv_topi (fun z17 ez17 => ?_)
        have Ez17 := lf_op lf_ishr ez17 (lf_rf p0) (lf_lc 8 (8 : Int) rfl)
        refine lv_sipush (v := 255) hx hb dX9_putBytes_18 rfl ?_
        refine lv_iand hx hb dX9_putBytes_21 ?_
        refine lv_topi (fun z18 ez18 => ?_)
        have h19 : ib z18 0 255 := by rw [ez18]; exact ib_and 8 (by decide) (by decide) 255 (by decide)
        have Ez18 := lf_op lf_iand ez18 Ez17 (lf_lc 255 (255 : Int) rfl)
        refine va_iast hx hb C0.2.2.2.2.2.1 hP hD hS 1 0 rfl rfl (ib_in 1600 h16 rfl) dX9_putBytes_22 (fun H locs hP hD hS => ?_)
        have h21 := ia_upd h13 (Int32.toNatClampNeg z14) (ib_w 0 255 h19 rfl)
        replace hP : va_P (dC, dI) vwCl [(wo_9_rirrrrrrrrrrrirl a_this a_this_tape z14 a_this_plan a_this_spare a_this_now a_this_history a_this_machine a_this_reader a_this_street a_this_choice a_this_ahead a_this_watch a_this_octets x_this_octetCount a_this_refusals x_this_drawn), (wi_0_1600_0 a_this_tape cy (upd f12 (Int32.toNatClampNeg z14) z18))] H := hP
        replace hD := k_D hP hD
        generalize ef20 : upd f12 (Int32.toNatClampNeg z14) z18 = f20 at hP hD h21
        have Ef20 := lf_st ef20 Ef12 Ez14 Ez18
        refine lv_aload_n hx hb dX9_putBytes_23 rfl (lv_at hl 1 rfl) ?_
        refine lv_dup hx hb dX9_putBytes_24 rfl ?_
        refine k_get C0 fg_X9_13 hP 0 rfl rfl dX9_putBytes_25 ?_
        refine lv_iconst (v := 1) hx hb dX9_putBytes_28 rfl ?_
        refine lv_iadd hx hb dX9_putBytes_29 ?_
        refine lv_topi (fun z22 ez22 => ?_)
        have h23 := ib_add h16 (ib_c 1 1 1 rfl) rfl
        rw [← ez22] at h23
        have h24 : ib z22 3 1591 := ib_w 3 1591 h23.1 rfl
        have Ez22 := lf_add h23.2 Ez14 (lf_lc 1 (1 : Int) rfl)
        refine k_put C0 fp_X9_13 hP hD hS 0 rfl rfl rfl (Nat.le_of_ble_eq_true rfl) dX9_putBytes_30 (fun H locs hP hD hS => ?_)
        replace hP : va_P (dC, dI) vwCl [(wo_9_rirrrrrrrrrrrirl a_this a_this_tape z22 a_this_plan a_this_spare a_this_now a_this_history a_this_machine a_this_reader a_this_street a_this_choice a_this_ahead a_this_watch a_this_octets x_this_octetCount a_this_refusals x_this_drawn), (wi_0_1600_0 a_this_tape cy f20)] H := hP
        replace hD := k_D hP hD
        as_aux_lemma =>
          refine lv_iinc (v := 0) (lv' := [(2, .int 0), (0, .ref a_this), (1, .int p0)]) hx hb dX9_putBytes_33 hl (k := 0) rfl (by decide) (Nat.le_of_ble_eq_true rfl) rfl (fun ls hl => ?_)
          refine lv_goto (tgt := 3) hx hb dX9_putBytes_36 rfl ?_
          refine lv_iload_n hx hb dX9_putBytes_3 rfl (lv_at hl 0 rfl) ?_
          refine lv_if_lt (tgt := 39) hx hb dX9_putBytes_4 rfl (fun h9 => absurd h9 (by decide)) (fun _ => ?_)
          refine lv_aload_n hx hb dX9_putBytes_7 rfl (lv_at hl 1 rfl) ?_
          refine k_get C0 fg_X9_9 hP 0 rfl rfl dX9_putBytes_8 ?_
          refine lv_aload_n hx hb dX9_putBytes_11 rfl (lv_at hl 1 rfl) ?_
          refine k_get C0 fg_X9_13 hP 0 rfl rfl dX9_putBytes_12 ?_
          refine lv_iload_n hx hb dX9_putBytes_15 rfl (lv_at hl 2 rfl) ?_
          refine lv_iload_n hx hb dX9_putBytes_16 rfl (lv_at hl 0 rfl) ?_
          refine lv_ishr hx hb dX9_putBytes_17 ?_
          refine lv_topi (fun z25 ez25 => ?_)
          have Ez25 := lf_op lf_ishr ez25 (lf_rf p0) (lf_lc 0 (0 : Int) rfl)
          refine lv_sipush (v := 255) hx hb dX9_putBytes_18 rfl ?_
          refine lv_iand hx hb dX9_putBytes_21 ?_
          refine lv_topi (fun z26 ez26 => ?_)
          have h27 : ib z26 0 255 := by rw [ez26]; exact ib_and 8 (by decide) (by decide) 255 (by decide)
          have Ez26 := lf_op lf_iand ez26 Ez25 (lf_lc 255 (255 : Int) rfl)
          refine va_iast hx hb C0.2.2.2.2.2.1 hP hD hS 1 0 rfl rfl (ib_in 1600 h24 rfl) dX9_putBytes_22 (fun H locs hP hD hS => ?_)
          have h29 := ia_upd h21 (Int32.toNatClampNeg z22) (ib_w 0 255 h27 rfl)
          replace hP : va_P (dC, dI) vwCl [(wo_9_rirrrrrrrrrrrirl a_this a_this_tape z22 a_this_plan a_this_spare a_this_now a_this_history a_this_machine a_this_reader a_this_street a_this_choice a_this_ahead a_this_watch a_this_octets x_this_octetCount a_this_refusals x_this_drawn), (wi_0_1600_0 a_this_tape cy (upd f20 (Int32.toNatClampNeg z22) z26))] H := hP
          replace hD := k_D hP hD
          generalize ef28 : upd f20 (Int32.toNatClampNeg z22) z26 = f28 at hP hD h29
          have Ef28 := lf_st ef28 Ef20 Ez22 Ez26
          refine lv_aload_n hx hb dX9_putBytes_23 rfl (lv_at hl 1 rfl) ?_
          refine lv_dup hx hb dX9_putBytes_24 rfl ?_
          refine k_get C0 fg_X9_13 hP 0 rfl rfl dX9_putBytes_25 ?_
          refine lv_iconst (v := 1) hx hb dX9_putBytes_28 rfl ?_
          refine lv_iadd hx hb dX9_putBytes_29 ?_
          refine lv_topi (fun z30 ez30 => ?_)
          have h31 := ib_add h24 (ib_c 1 1 1 rfl) rfl
          rw [← ez30] at h31
          have h32 : ib z30 4 1592 := ib_w 4 1592 h31.1 rfl
          have Ez30 := lf_add h31.2 Ez22 (lf_lc 1 (1 : Int) rfl)
          refine k_put C0 fp_X9_13 hP hD hS 0 rfl rfl rfl (Nat.le_of_ble_eq_true rfl) dX9_putBytes_30 (fun H locs hP hD hS => ?_)
          replace hP : va_P (dC, dI) vwCl [(wo_9_rirrrrrrrrrrrirl a_this a_this_tape z30 a_this_plan a_this_spare a_this_now a_this_history a_this_machine a_this_reader a_this_street a_this_choice a_this_ahead a_this_watch a_this_octets x_this_octetCount a_this_refusals x_this_drawn), (wi_0_1600_0 a_this_tape cy f28)] H := hP
          replace hD := k_D hP hD
          refine lv_iinc (v := (-8)) (lv' := [(2, .int (-8)), (0, .ref a_this), (1, .int p0)]) hx hb dX9_putBytes_33 hl (k := 0) rfl (by decide) (Nat.le_of_ble_eq_true rfl) rfl (fun ls hl => ?_)
          refine lv_goto (tgt := 3) hx hb dX9_putBytes_36 rfl ?_
          refine lv_iload_n hx hb dX9_putBytes_3 rfl (lv_at hl 0 rfl) ?_
          refine lv_if_lt (tgt := 39) hx hb dX9_putBytes_4 rfl (fun _ => ?_) (fun h9 => absurd (by decide) h9)
          subst hQ; exact k_vret hx hb hr hlk ((z30, f28)) hS ⟨ib_w 4 1592 h32 rfl, h29, by have := (hx_this_tapeSize).1; have := (hx_this_tapeSize).2; have := (h32).1; have := (h32).2; have := h31.2; have : (1 : Int32).toInt = 1 := rfl; have := (h24).1; have := (h24).2; have := h23.2; have := (h16).1; have := (h16).2; have := h15.2; have := (h8).1; have := (h8).2; have := h7.2; omega, (hO.symm.trans (by rw [lf_u Ez30]; rw [lf_ua Ef28]; exact hq))⟩ hP hD (Nat.le_of_ble_eq_true rfl) (Nat.le_of_ble_eq_true rfl) dX9_putBytes_39
set_option maxHeartbeats 4000000 in
set_option maxRecDepth 100000 in
theorem s_X9_putBytes_f_0_1592 (l : Launch) (dC : Nat → ClassId) (dI : Nat → Nat → Nat) (cy : Nat → ClassId) (sq : Nat → Nat) (a_this : Nat) (a_this_tape : Nat) (g_this_tape : Nat → Int32) (x_this_tapeSize : Int32) (a_this_plan : Nat) (a_this_spare : Nat) (a_this_now : Nat) (a_this_history : Nat) (a_this_machine : Nat) (a_this_reader : Nat) (a_this_street : Nat) (a_this_choice : Nat) (a_this_ahead : Nat) (a_this_watch : Nat) (a_this_octets : Nat) (x_this_octetCount : Int32) (a_this_refusals : Nat) (x_this_drawn : Int64) (p0 : Int32) (hg_this_tape : ia g_this_tape 1600 0 255) (hx_this_tapeSize : ib x_this_tapeSize 0 1592) : k_Met l yX9_putBytes cX9_putBytes 3 none { frames := 0, cells := 0, slots := 0, locals := 0 } dC dI cy sq [.ref a_this, .int p0] [(wo_9_rirrrrrrrrrrrirl a_this a_this_tape x_this_tapeSize a_this_plan a_this_spare a_this_now a_this_history a_this_machine a_this_reader a_this_street a_this_choice a_this_ahead a_this_watch a_this_octets x_this_octetCount a_this_refusals x_this_drawn), (wi_0_1600_0 a_this_tape cy g_this_tape)] (k_Qv dC dI (fun (u : Int32 × (Nat → Int32)) => match u with | (n0, n1) => ib n0 4 1596 ∧ ia n1 1600 0 255 ∧ (n0.toInt = x_this_tapeSize.toInt + 4) ∧ (F_X9_putBytes_f_0_1592 (lf_A g_this_tape) (Int32.toInt x_this_tapeSize) (Int32.toInt p0) = ((Int32.toInt n0), (lf_A n1)))) (fun u : Int32 × (Nat → Int32) => match u with | (n0, n1) => [(wo_9_rirrrrrrrrrrrirl a_this a_this_tape n0 a_this_plan a_this_spare a_this_now a_this_history a_this_machine a_this_reader a_this_street a_this_choice a_this_ahead a_this_watch a_this_octets x_this_octetCount a_this_refusals x_this_drawn), (wi_0_1600_0 a_this_tape cy n1)])) := by
  refine k_ofW2 (by decide +kernel) (Nat.le_of_ble_eq_true rfl) ?_
  intro p e s m below meth c A ls H locs args Q hQ C0 hZ hr hlk hin hP hD hA hS hl
  have C0 : k_cx p s m args c cX9_putBytes 3 RX9 dC dI cy sq := C0
  have hx := C0.1
  have hb := C0.2.1
  have hl : lv_has ls 3 [(0, .ref a_this), (1, .int p0)] := hl
  obtain ⟨O, hO⟩ : ∃ o, o = F_X9_putBytes_f_0_1592 (lf_A g_this_tape) (Int32.toInt x_this_tapeSize) (Int32.toInt p0) := ⟨_, rfl⟩
  have hq := hO
  unfold F_X9_putBytes_f_0_1592 at hq
  refine lv_bipush (v := 24) hx hb dX9_putBytes_0 rfl ?_
  refine lv_istore_n (lv' := [(2, .int 24), (0, .ref a_this), (1, .int p0)]) hx hb dX9_putBytes_2 rfl hl (Nat.le_of_ble_eq_true rfl) rfl (fun ls hl => ?_)
  refine lv_iload_n hx hb dX9_putBytes_3 rfl (lv_at hl 0 rfl) ?_
  refine lv_if_lt (tgt := 39) hx hb dX9_putBytes_4 rfl (fun h9 => absurd h9 (by decide)) (fun _ => ?_)
  refine lv_aload_n hx hb dX9_putBytes_7 rfl (lv_at hl 1 rfl) ?_
  refine k_get C0 fg_X9_9 hP 0 rfl rfl dX9_putBytes_8 ?_
  refine lv_aload_n hx hb dX9_putBytes_11 rfl (lv_at hl 1 rfl) ?_
  refine k_get C0 fg_X9_13 hP 0 rfl rfl dX9_putBytes_12 ?_
  refine lv_iload_n hx hb dX9_putBytes_15 rfl (lv_at hl 2 rfl) ?_
  refine lv_iload_n hx hb dX9_putBytes_16 rfl (lv_at hl 0 rfl) ?_
  refine lv_ishr hx hb dX9_putBytes_17 ?_
  refine lv_topi (fun z1 ez1 => ?_)
  have Ez1 := lf_op lf_ishr ez1 (lf_rf p0) (lf_lc 24 (24 : Int) rfl)
  refine lv_sipush (v := 255) hx hb dX9_putBytes_18 rfl ?_
  refine lv_iand hx hb dX9_putBytes_21 ?_
  refine lv_topi (fun z2 ez2 => ?_)
  have h3 : ib z2 0 255 := by rw [ez2]; exact ib_and 8 (by decide) (by decide) 255 (by decide)
  have Ez2 := lf_op lf_iand ez2 Ez1 (lf_lc 255 (255 : Int) rfl)
  refine va_iast hx hb C0.2.2.2.2.2.1 hP hD hS 1 0 rfl rfl (ib_in 1600 hx_this_tapeSize rfl) dX9_putBytes_22 (fun H locs hP hD hS => ?_)
  have h5 := ia_upd hg_this_tape (Int32.toNatClampNeg x_this_tapeSize) (ib_w 0 255 h3 rfl)
  replace hP : va_P (dC, dI) vwCl [(wo_9_rirrrrrrrrrrrirl a_this a_this_tape x_this_tapeSize a_this_plan a_this_spare a_this_now a_this_history a_this_machine a_this_reader a_this_street a_this_choice a_this_ahead a_this_watch a_this_octets x_this_octetCount a_this_refusals x_this_drawn), (wi_0_1600_0 a_this_tape cy (upd g_this_tape (Int32.toNatClampNeg x_this_tapeSize) z2))] H := hP
  as_aux_lemma =>
    replace hD := k_D hP hD
    generalize ef4 : upd g_this_tape (Int32.toNatClampNeg x_this_tapeSize) z2 = f4 at hP hD h5
    have Ef4 := lf_st ef4 (lf_ra g_this_tape) (lf_rf x_this_tapeSize) Ez2
    refine lv_aload_n hx hb dX9_putBytes_23 rfl (lv_at hl 1 rfl) ?_
    refine lv_dup hx hb dX9_putBytes_24 rfl ?_
    refine k_get C0 fg_X9_13 hP 0 rfl rfl dX9_putBytes_25 ?_
    refine lv_iconst (v := 1) hx hb dX9_putBytes_28 rfl ?_
    refine lv_iadd hx hb dX9_putBytes_29 ?_
    refine lv_topi (fun z6 ez6 => ?_)
    have h7 := ib_add hx_this_tapeSize (ib_c 1 1 1 rfl) rfl
    rw [← ez6] at h7
    have h8 : ib z6 1 1593 := ib_w 1 1593 h7.1 rfl
    have Ez6 := lf_add h7.2 (lf_rf x_this_tapeSize) (lf_lc 1 (1 : Int) rfl)
    refine k_put C0 fp_X9_13 hP hD hS 0 rfl rfl rfl (Nat.le_of_ble_eq_true rfl) dX9_putBytes_30 (fun H locs hP hD hS => ?_)
    replace hP : va_P (dC, dI) vwCl [(wo_9_rirrrrrrrrrrrirl a_this a_this_tape z6 a_this_plan a_this_spare a_this_now a_this_history a_this_machine a_this_reader a_this_street a_this_choice a_this_ahead a_this_watch a_this_octets x_this_octetCount a_this_refusals x_this_drawn), (wi_0_1600_0 a_this_tape cy f4)] H := hP
    replace hD := k_D hP hD
    refine lv_iinc (v := 16) (lv' := [(2, .int 16), (0, .ref a_this), (1, .int p0)]) hx hb dX9_putBytes_33 hl (k := 0) rfl (by decide) (Nat.le_of_ble_eq_true rfl) rfl (fun ls hl => ?_)
    refine lv_goto (tgt := 3) hx hb dX9_putBytes_36 rfl ?_
    refine lv_iload_n hx hb dX9_putBytes_3 rfl (lv_at hl 0 rfl) ?_
    refine lv_if_lt (tgt := 39) hx hb dX9_putBytes_4 rfl (fun h9 => absurd h9 (by decide)) (fun _ => ?_)
    refine lv_aload_n hx hb dX9_putBytes_7 rfl (lv_at hl 1 rfl) ?_
    refine k_get C0 fg_X9_9 hP 0 rfl rfl dX9_putBytes_8 ?_
    refine lv_aload_n hx hb dX9_putBytes_11 rfl (lv_at hl 1 rfl) ?_
    refine k_get C0 fg_X9_13 hP 0 rfl rfl dX9_putBytes_12 ?_
    refine lv_iload_n hx hb dX9_putBytes_15 rfl (lv_at hl 2 rfl) ?_
    refine lv_iload_n hx hb dX9_putBytes_16 rfl (lv_at hl 0 rfl) ?_
    refine lv_ishr hx hb dX9_putBytes_17 ?_
    refine lv_topi (fun z9 ez9 => ?_)
    have Ez9 := lf_op lf_ishr ez9 (lf_rf p0) (lf_lc 16 (16 : Int) rfl)
    refine lv_sipush (v := 255) hx hb dX9_putBytes_18 rfl ?_
    as_aux_lemma =>
      refine lv_iand hx hb dX9_putBytes_21 ?_
      refine lv_topi (fun z10 ez10 => ?_)
      have h11 : ib z10 0 255 := by rw [ez10]; exact ib_and 8 (by decide) (by decide) 255 (by decide)
      have Ez10 := lf_op lf_iand ez10 Ez9 (lf_lc 255 (255 : Int) rfl)
      refine va_iast hx hb C0.2.2.2.2.2.1 hP hD hS 1 0 rfl rfl (ib_in 1600 h8 rfl) dX9_putBytes_22 (fun H locs hP hD hS => ?_)
      have h13 := ia_upd h5 (Int32.toNatClampNeg z6) (ib_w 0 255 h11 rfl)
      replace hP : va_P (dC, dI) vwCl [(wo_9_rirrrrrrrrrrrirl a_this a_this_tape z6 a_this_plan a_this_spare a_this_now a_this_history a_this_machine a_this_reader a_this_street a_this_choice a_this_ahead a_this_watch a_this_octets x_this_octetCount a_this_refusals x_this_drawn), (wi_0_1600_0 a_this_tape cy (upd f4 (Int32.toNatClampNeg z6) z10))] H := hP
      replace hD := k_D hP hD
      generalize ef12 : upd f4 (Int32.toNatClampNeg z6) z10 = f12 at hP hD h13
      have Ef12 := lf_st ef12 Ef4 Ez6 Ez10
      refine lv_aload_n hx hb dX9_putBytes_23 rfl (lv_at hl 1 rfl) ?_
      refine lv_dup hx hb dX9_putBytes_24 rfl ?_
      refine k_get C0 fg_X9_13 hP 0 rfl rfl dX9_putBytes_25 ?_
      refine lv_iconst (v := 1) hx hb dX9_putBytes_28 rfl ?_
      refine lv_iadd hx hb dX9_putBytes_29 ?_
      refine lv_topi (fun z14 ez14 => ?_)
      have h15 := ib_add h8 (ib_c 1 1 1 rfl) rfl
      rw [← ez14] at h15
      have h16 : ib z14 2 1594 := ib_w 2 1594 h15.1 rfl
      have Ez14 := lf_add h15.2 Ez6 (lf_lc 1 (1 : Int) rfl)
      refine k_put C0 fp_X9_13 hP hD hS 0 rfl rfl rfl (Nat.le_of_ble_eq_true rfl) dX9_putBytes_30 (fun H locs hP hD hS => ?_)
      replace hP : va_P (dC, dI) vwCl [(wo_9_rirrrrrrrrrrrirl a_this a_this_tape z14 a_this_plan a_this_spare a_this_now a_this_history a_this_machine a_this_reader a_this_street a_this_choice a_this_ahead a_this_watch a_this_octets x_this_octetCount a_this_refusals x_this_drawn), (wi_0_1600_0 a_this_tape cy f12)] H := hP
      replace hD := k_D hP hD
      refine lv_iinc (v := 8) (lv' := [(2, .int 8), (0, .ref a_this), (1, .int p0)]) hx hb dX9_putBytes_33 hl (k := 0) rfl (by decide) (Nat.le_of_ble_eq_true rfl) rfl (fun ls hl => ?_)
      refine lv_goto (tgt := 3) hx hb dX9_putBytes_36 rfl ?_
      refine lv_iload_n hx hb dX9_putBytes_3 rfl (lv_at hl 0 rfl) ?_
      refine lv_if_lt (tgt := 39) hx hb dX9_putBytes_4 rfl (fun h9 => absurd h9 (by decide)) (fun _ => ?_)
      refine lv_aload_n hx hb dX9_putBytes_7 rfl (lv_at hl 1 rfl) ?_
      refine k_get C0 fg_X9_9 hP 0 rfl rfl dX9_putBytes_8 ?_
      refine lv_aload_n hx hb dX9_putBytes_11 rfl (lv_at hl 1 rfl) ?_
      as_aux_lemma =>
        refine k_get C0 fg_X9_13 hP 0 rfl rfl dX9_putBytes_12 ?_
        refine lv_iload_n hx hb dX9_putBytes_15 rfl (lv_at hl 2 rfl) ?_
        refine lv_iload_n hx hb dX9_putBytes_16 rfl (lv_at hl 0 rfl) ?_
        refine lv_ishr hx hb dX9_putBytes_17 ?_
        refine lv_topi (fun z17 ez17 => ?_)
        have Ez17 := lf_op lf_ishr ez17 (lf_rf p0) (lf_lc 8 (8 : Int) rfl)
        refine lv_sipush (v := 255) hx hb dX9_putBytes_18 rfl ?_
        refine lv_iand hx hb dX9_putBytes_21 ?_
        refine lv_topi (fun z18 ez18 => ?_)
        have h19 : ib z18 0 255 := by rw [ez18]; exact ib_and 8 (by decide) (by decide) 255 (by decide)
        have Ez18 := lf_op lf_iand ez18 Ez17 (lf_lc 255 (255 : Int) rfl)
        refine va_iast hx hb C0.2.2.2.2.2.1 hP hD hS 1 0 rfl rfl (ib_in 1600 h16 rfl) dX9_putBytes_22 (fun H locs hP hD hS => ?_)
        have h21 := ia_upd h13 (Int32.toNatClampNeg z14) (ib_w 0 255 h19 rfl)
        replace hP : va_P (dC, dI) vwCl [(wo_9_rirrrrrrrrrrrirl a_this a_this_tape z14 a_this_plan a_this_spare a_this_now a_this_history a_this_machine a_this_reader a_this_street a_this_choice a_this_ahead a_this_watch a_this_octets x_this_octetCount a_this_refusals x_this_drawn), (wi_0_1600_0 a_this_tape cy (upd f12 (Int32.toNatClampNeg z14) z18))] H := hP
        replace hD := k_D hP hD
        generalize ef20 : upd f12 (Int32.toNatClampNeg z14) z18 = f20 at hP hD h21
        have Ef20 := lf_st ef20 Ef12 Ez14 Ez18
        refine lv_aload_n hx hb dX9_putBytes_23 rfl (lv_at hl 1 rfl) ?_
        refine lv_dup hx hb dX9_putBytes_24 rfl ?_
        refine k_get C0 fg_X9_13 hP 0 rfl rfl dX9_putBytes_25 ?_
        refine lv_iconst (v := 1) hx hb dX9_putBytes_28 rfl ?_
        refine lv_iadd hx hb dX9_putBytes_29 ?_
        refine lv_topi (fun z22 ez22 => ?_)
        have h23 := ib_add h16 (ib_c 1 1 1 rfl) rfl
        rw [← ez22] at h23
        have h24 : ib z22 3 1595 := ib_w 3 1595 h23.1 rfl
        have Ez22 := lf_add h23.2 Ez14 (lf_lc 1 (1 : Int) rfl)
        refine k_put C0 fp_X9_13 hP hD hS 0 rfl rfl rfl (Nat.le_of_ble_eq_true rfl) dX9_putBytes_30 (fun H locs hP hD hS => ?_)
        replace hP : va_P (dC, dI) vwCl [(wo_9_rirrrrrrrrrrrirl a_this a_this_tape z22 a_this_plan a_this_spare a_this_now a_this_history a_this_machine a_this_reader a_this_street a_this_choice a_this_ahead a_this_watch a_this_octets x_this_octetCount a_this_refusals x_this_drawn), (wi_0_1600_0 a_this_tape cy f20)] H := hP
        replace hD := k_D hP hD
        as_aux_lemma =>
          refine lv_iinc (v := 0) (lv' := [(2, .int 0), (0, .ref a_this), (1, .int p0)]) hx hb dX9_putBytes_33 hl (k := 0) rfl (by decide) (Nat.le_of_ble_eq_true rfl) rfl (fun ls hl => ?_)
          refine lv_goto (tgt := 3) hx hb dX9_putBytes_36 rfl ?_
          refine lv_iload_n hx hb dX9_putBytes_3 rfl (lv_at hl 0 rfl) ?_
          refine lv_if_lt (tgt := 39) hx hb dX9_putBytes_4 rfl (fun h9 => absurd h9 (by decide)) (fun _ => ?_)
          refine lv_aload_n hx hb dX9_putBytes_7 rfl (lv_at hl 1 rfl) ?_
          refine k_get C0 fg_X9_9 hP 0 rfl rfl dX9_putBytes_8 ?_
          refine lv_aload_n hx hb dX9_putBytes_11 rfl (lv_at hl 1 rfl) ?_
          refine k_get C0 fg_X9_13 hP 0 rfl rfl dX9_putBytes_12 ?_
          refine lv_iload_n hx hb dX9_putBytes_15 rfl (lv_at hl 2 rfl) ?_
          refine lv_iload_n hx hb dX9_putBytes_16 rfl (lv_at hl 0 rfl) ?_
          refine lv_ishr hx hb dX9_putBytes_17 ?_
          refine lv_topi (fun z25 ez25 => ?_)
          have Ez25 := lf_op lf_ishr ez25 (lf_rf p0) (lf_lc 0 (0 : Int) rfl)
          refine lv_sipush (v := 255) hx hb dX9_putBytes_18 rfl ?_
          refine lv_iand hx hb dX9_putBytes_21 ?_
          refine lv_topi (fun z26 ez26 => ?_)
          have h27 : ib z26 0 255 := by rw [ez26]; exact ib_and 8 (by decide) (by decide) 255 (by decide)
          have Ez26 := lf_op lf_iand ez26 Ez25 (lf_lc 255 (255 : Int) rfl)
          refine va_iast hx hb C0.2.2.2.2.2.1 hP hD hS 1 0 rfl rfl (ib_in 1600 h24 rfl) dX9_putBytes_22 (fun H locs hP hD hS => ?_)
          have h29 := ia_upd h21 (Int32.toNatClampNeg z22) (ib_w 0 255 h27 rfl)
          replace hP : va_P (dC, dI) vwCl [(wo_9_rirrrrrrrrrrrirl a_this a_this_tape z22 a_this_plan a_this_spare a_this_now a_this_history a_this_machine a_this_reader a_this_street a_this_choice a_this_ahead a_this_watch a_this_octets x_this_octetCount a_this_refusals x_this_drawn), (wi_0_1600_0 a_this_tape cy (upd f20 (Int32.toNatClampNeg z22) z26))] H := hP
          replace hD := k_D hP hD
          generalize ef28 : upd f20 (Int32.toNatClampNeg z22) z26 = f28 at hP hD h29
          have Ef28 := lf_st ef28 Ef20 Ez22 Ez26
          refine lv_aload_n hx hb dX9_putBytes_23 rfl (lv_at hl 1 rfl) ?_
          refine lv_dup hx hb dX9_putBytes_24 rfl ?_
          refine k_get C0 fg_X9_13 hP 0 rfl rfl dX9_putBytes_25 ?_
          refine lv_iconst (v := 1) hx hb dX9_putBytes_28 rfl ?_
          refine lv_iadd hx hb dX9_putBytes_29 ?_
          refine lv_topi (fun z30 ez30 => ?_)
          have h31 := ib_add h24 (ib_c 1 1 1 rfl) rfl
          rw [← ez30] at h31
          have h32 : ib z30 4 1596 := ib_w 4 1596 h31.1 rfl
          have Ez30 := lf_add h31.2 Ez22 (lf_lc 1 (1 : Int) rfl)
          refine k_put C0 fp_X9_13 hP hD hS 0 rfl rfl rfl (Nat.le_of_ble_eq_true rfl) dX9_putBytes_30 (fun H locs hP hD hS => ?_)
          replace hP : va_P (dC, dI) vwCl [(wo_9_rirrrrrrrrrrrirl a_this a_this_tape z30 a_this_plan a_this_spare a_this_now a_this_history a_this_machine a_this_reader a_this_street a_this_choice a_this_ahead a_this_watch a_this_octets x_this_octetCount a_this_refusals x_this_drawn), (wi_0_1600_0 a_this_tape cy f28)] H := hP
          replace hD := k_D hP hD
          refine lv_iinc (v := (-8)) (lv' := [(2, .int (-8)), (0, .ref a_this), (1, .int p0)]) hx hb dX9_putBytes_33 hl (k := 0) rfl (by decide) (Nat.le_of_ble_eq_true rfl) rfl (fun ls hl => ?_)
          refine lv_goto (tgt := 3) hx hb dX9_putBytes_36 rfl ?_
          refine lv_iload_n hx hb dX9_putBytes_3 rfl (lv_at hl 0 rfl) ?_
          refine lv_if_lt (tgt := 39) hx hb dX9_putBytes_4 rfl (fun _ => ?_) (fun h9 => absurd (by decide) h9)
          subst hQ; exact k_vret hx hb hr hlk ((z30, f28)) hS ⟨ib_w 4 1596 h32 rfl, h29, by have := (hx_this_tapeSize).1; have := (hx_this_tapeSize).2; have := (h32).1; have := (h32).2; have := h31.2; have : (1 : Int32).toInt = 1 := rfl; have := (h24).1; have := (h24).2; have := h23.2; have := (h16).1; have := (h16).2; have := h15.2; have := (h8).1; have := (h8).2; have := h7.2; omega, (hO.symm.trans (by rw [lf_u Ez30]; rw [lf_ua Ef28]; exact hq))⟩ hP hD (Nat.le_of_ble_eq_true rfl) (Nat.le_of_ble_eq_true rfl) dX9_putBytes_39
set_option maxHeartbeats 4000000 in
set_option maxRecDepth 100000 in
theorem s_X9_putBytes_f_0_1596 (l : Launch) (dC : Nat → ClassId) (dI : Nat → Nat → Nat) (cy : Nat → ClassId) (sq : Nat → Nat) (a_this : Nat) (a_this_tape : Nat) (g_this_tape : Nat → Int32) (x_this_tapeSize : Int32) (a_this_plan : Nat) (a_this_spare : Nat) (a_this_now : Nat) (a_this_history : Nat) (a_this_machine : Nat) (a_this_reader : Nat) (a_this_street : Nat) (a_this_choice : Nat) (a_this_ahead : Nat) (a_this_watch : Nat) (a_this_octets : Nat) (x_this_octetCount : Int32) (a_this_refusals : Nat) (x_this_drawn : Int64) (p0 : Int32) (hg_this_tape : ia g_this_tape 1600 0 255) (hx_this_tapeSize : ib x_this_tapeSize 0 1596) : k_Met l yX9_putBytes cX9_putBytes 3 none { frames := 0, cells := 0, slots := 0, locals := 0 } dC dI cy sq [.ref a_this, .int p0] [(wo_9_rirrrrrrrrrrrirl a_this a_this_tape x_this_tapeSize a_this_plan a_this_spare a_this_now a_this_history a_this_machine a_this_reader a_this_street a_this_choice a_this_ahead a_this_watch a_this_octets x_this_octetCount a_this_refusals x_this_drawn), (wi_0_1600_0 a_this_tape cy g_this_tape)] (k_Qv dC dI (fun (u : Int32 × (Nat → Int32)) => match u with | (n0, n1) => ib n0 4 1600 ∧ ia n1 1600 0 255 ∧ (n0.toInt = x_this_tapeSize.toInt + 4) ∧ (F_X9_putBytes_f_0_1596 (lf_A g_this_tape) (Int32.toInt x_this_tapeSize) (Int32.toInt p0) = ((Int32.toInt n0), (lf_A n1)))) (fun u : Int32 × (Nat → Int32) => match u with | (n0, n1) => [(wo_9_rirrrrrrrrrrrirl a_this a_this_tape n0 a_this_plan a_this_spare a_this_now a_this_history a_this_machine a_this_reader a_this_street a_this_choice a_this_ahead a_this_watch a_this_octets x_this_octetCount a_this_refusals x_this_drawn), (wi_0_1600_0 a_this_tape cy n1)])) := by
  refine k_ofW2 (by decide +kernel) (Nat.le_of_ble_eq_true rfl) ?_
  intro p e s m below meth c A ls H locs args Q hQ C0 hZ hr hlk hin hP hD hA hS hl
  have C0 : k_cx p s m args c cX9_putBytes 3 RX9 dC dI cy sq := C0
  have hx := C0.1
  have hb := C0.2.1
  have hl : lv_has ls 3 [(0, .ref a_this), (1, .int p0)] := hl
  obtain ⟨O, hO⟩ : ∃ o, o = F_X9_putBytes_f_0_1596 (lf_A g_this_tape) (Int32.toInt x_this_tapeSize) (Int32.toInt p0) := ⟨_, rfl⟩
  have hq := hO
  unfold F_X9_putBytes_f_0_1596 at hq
  refine lv_bipush (v := 24) hx hb dX9_putBytes_0 rfl ?_
  refine lv_istore_n (lv' := [(2, .int 24), (0, .ref a_this), (1, .int p0)]) hx hb dX9_putBytes_2 rfl hl (Nat.le_of_ble_eq_true rfl) rfl (fun ls hl => ?_)
  refine lv_iload_n hx hb dX9_putBytes_3 rfl (lv_at hl 0 rfl) ?_
  refine lv_if_lt (tgt := 39) hx hb dX9_putBytes_4 rfl (fun h9 => absurd h9 (by decide)) (fun _ => ?_)
  refine lv_aload_n hx hb dX9_putBytes_7 rfl (lv_at hl 1 rfl) ?_
  refine k_get C0 fg_X9_9 hP 0 rfl rfl dX9_putBytes_8 ?_
  refine lv_aload_n hx hb dX9_putBytes_11 rfl (lv_at hl 1 rfl) ?_
  refine k_get C0 fg_X9_13 hP 0 rfl rfl dX9_putBytes_12 ?_
  refine lv_iload_n hx hb dX9_putBytes_15 rfl (lv_at hl 2 rfl) ?_
  refine lv_iload_n hx hb dX9_putBytes_16 rfl (lv_at hl 0 rfl) ?_
  refine lv_ishr hx hb dX9_putBytes_17 ?_
  refine lv_topi (fun z1 ez1 => ?_)
  have Ez1 := lf_op lf_ishr ez1 (lf_rf p0) (lf_lc 24 (24 : Int) rfl)
  refine lv_sipush (v := 255) hx hb dX9_putBytes_18 rfl ?_
  refine lv_iand hx hb dX9_putBytes_21 ?_
  refine lv_topi (fun z2 ez2 => ?_)
  have h3 : ib z2 0 255 := by rw [ez2]; exact ib_and 8 (by decide) (by decide) 255 (by decide)
  have Ez2 := lf_op lf_iand ez2 Ez1 (lf_lc 255 (255 : Int) rfl)
  refine va_iast hx hb C0.2.2.2.2.2.1 hP hD hS 1 0 rfl rfl (ib_in 1600 hx_this_tapeSize rfl) dX9_putBytes_22 (fun H locs hP hD hS => ?_)
  have h5 := ia_upd hg_this_tape (Int32.toNatClampNeg x_this_tapeSize) (ib_w 0 255 h3 rfl)
  replace hP : va_P (dC, dI) vwCl [(wo_9_rirrrrrrrrrrrirl a_this a_this_tape x_this_tapeSize a_this_plan a_this_spare a_this_now a_this_history a_this_machine a_this_reader a_this_street a_this_choice a_this_ahead a_this_watch a_this_octets x_this_octetCount a_this_refusals x_this_drawn), (wi_0_1600_0 a_this_tape cy (upd g_this_tape (Int32.toNatClampNeg x_this_tapeSize) z2))] H := hP
  as_aux_lemma =>
    replace hD := k_D hP hD
    generalize ef4 : upd g_this_tape (Int32.toNatClampNeg x_this_tapeSize) z2 = f4 at hP hD h5
    have Ef4 := lf_st ef4 (lf_ra g_this_tape) (lf_rf x_this_tapeSize) Ez2
    refine lv_aload_n hx hb dX9_putBytes_23 rfl (lv_at hl 1 rfl) ?_
    refine lv_dup hx hb dX9_putBytes_24 rfl ?_
    refine k_get C0 fg_X9_13 hP 0 rfl rfl dX9_putBytes_25 ?_
    refine lv_iconst (v := 1) hx hb dX9_putBytes_28 rfl ?_
    refine lv_iadd hx hb dX9_putBytes_29 ?_
    refine lv_topi (fun z6 ez6 => ?_)
    have h7 := ib_add hx_this_tapeSize (ib_c 1 1 1 rfl) rfl
    rw [← ez6] at h7
    have h8 : ib z6 1 1597 := ib_w 1 1597 h7.1 rfl
    have Ez6 := lf_add h7.2 (lf_rf x_this_tapeSize) (lf_lc 1 (1 : Int) rfl)
    refine k_put C0 fp_X9_13 hP hD hS 0 rfl rfl rfl (Nat.le_of_ble_eq_true rfl) dX9_putBytes_30 (fun H locs hP hD hS => ?_)
    replace hP : va_P (dC, dI) vwCl [(wo_9_rirrrrrrrrrrrirl a_this a_this_tape z6 a_this_plan a_this_spare a_this_now a_this_history a_this_machine a_this_reader a_this_street a_this_choice a_this_ahead a_this_watch a_this_octets x_this_octetCount a_this_refusals x_this_drawn), (wi_0_1600_0 a_this_tape cy f4)] H := hP
    replace hD := k_D hP hD
    refine lv_iinc (v := 16) (lv' := [(2, .int 16), (0, .ref a_this), (1, .int p0)]) hx hb dX9_putBytes_33 hl (k := 0) rfl (by decide) (Nat.le_of_ble_eq_true rfl) rfl (fun ls hl => ?_)
    refine lv_goto (tgt := 3) hx hb dX9_putBytes_36 rfl ?_
    refine lv_iload_n hx hb dX9_putBytes_3 rfl (lv_at hl 0 rfl) ?_
    refine lv_if_lt (tgt := 39) hx hb dX9_putBytes_4 rfl (fun h9 => absurd h9 (by decide)) (fun _ => ?_)
    refine lv_aload_n hx hb dX9_putBytes_7 rfl (lv_at hl 1 rfl) ?_
    refine k_get C0 fg_X9_9 hP 0 rfl rfl dX9_putBytes_8 ?_
    refine lv_aload_n hx hb dX9_putBytes_11 rfl (lv_at hl 1 rfl) ?_
    refine k_get C0 fg_X9_13 hP 0 rfl rfl dX9_putBytes_12 ?_
    refine lv_iload_n hx hb dX9_putBytes_15 rfl (lv_at hl 2 rfl) ?_
    refine lv_iload_n hx hb dX9_putBytes_16 rfl (lv_at hl 0 rfl) ?_
    refine lv_ishr hx hb dX9_putBytes_17 ?_
    refine lv_topi (fun z9 ez9 => ?_)
    have Ez9 := lf_op lf_ishr ez9 (lf_rf p0) (lf_lc 16 (16 : Int) rfl)
    refine lv_sipush (v := 255) hx hb dX9_putBytes_18 rfl ?_
    as_aux_lemma =>
      refine lv_iand hx hb dX9_putBytes_21 ?_
      refine lv_topi (fun z10 ez10 => ?_)
      have h11 : ib z10 0 255 := by rw [ez10]; exact ib_and 8 (by decide) (by decide) 255 (by decide)
      have Ez10 := lf_op lf_iand ez10 Ez9 (lf_lc 255 (255 : Int) rfl)
      refine va_iast hx hb C0.2.2.2.2.2.1 hP hD hS 1 0 rfl rfl (ib_in 1600 h8 rfl) dX9_putBytes_22 (fun H locs hP hD hS => ?_)
      have h13 := ia_upd h5 (Int32.toNatClampNeg z6) (ib_w 0 255 h11 rfl)
      replace hP : va_P (dC, dI) vwCl [(wo_9_rirrrrrrrrrrrirl a_this a_this_tape z6 a_this_plan a_this_spare a_this_now a_this_history a_this_machine a_this_reader a_this_street a_this_choice a_this_ahead a_this_watch a_this_octets x_this_octetCount a_this_refusals x_this_drawn), (wi_0_1600_0 a_this_tape cy (upd f4 (Int32.toNatClampNeg z6) z10))] H := hP
      replace hD := k_D hP hD
      generalize ef12 : upd f4 (Int32.toNatClampNeg z6) z10 = f12 at hP hD h13
      have Ef12 := lf_st ef12 Ef4 Ez6 Ez10
      refine lv_aload_n hx hb dX9_putBytes_23 rfl (lv_at hl 1 rfl) ?_
      refine lv_dup hx hb dX9_putBytes_24 rfl ?_
      refine k_get C0 fg_X9_13 hP 0 rfl rfl dX9_putBytes_25 ?_
      refine lv_iconst (v := 1) hx hb dX9_putBytes_28 rfl ?_
      refine lv_iadd hx hb dX9_putBytes_29 ?_
      refine lv_topi (fun z14 ez14 => ?_)
      have h15 := ib_add h8 (ib_c 1 1 1 rfl) rfl
      rw [← ez14] at h15
      have h16 : ib z14 2 1598 := ib_w 2 1598 h15.1 rfl
      have Ez14 := lf_add h15.2 Ez6 (lf_lc 1 (1 : Int) rfl)
      refine k_put C0 fp_X9_13 hP hD hS 0 rfl rfl rfl (Nat.le_of_ble_eq_true rfl) dX9_putBytes_30 (fun H locs hP hD hS => ?_)
      replace hP : va_P (dC, dI) vwCl [(wo_9_rirrrrrrrrrrrirl a_this a_this_tape z14 a_this_plan a_this_spare a_this_now a_this_history a_this_machine a_this_reader a_this_street a_this_choice a_this_ahead a_this_watch a_this_octets x_this_octetCount a_this_refusals x_this_drawn), (wi_0_1600_0 a_this_tape cy f12)] H := hP
      replace hD := k_D hP hD
      refine lv_iinc (v := 8) (lv' := [(2, .int 8), (0, .ref a_this), (1, .int p0)]) hx hb dX9_putBytes_33 hl (k := 0) rfl (by decide) (Nat.le_of_ble_eq_true rfl) rfl (fun ls hl => ?_)
      refine lv_goto (tgt := 3) hx hb dX9_putBytes_36 rfl ?_
      refine lv_iload_n hx hb dX9_putBytes_3 rfl (lv_at hl 0 rfl) ?_
      refine lv_if_lt (tgt := 39) hx hb dX9_putBytes_4 rfl (fun h9 => absurd h9 (by decide)) (fun _ => ?_)
      refine lv_aload_n hx hb dX9_putBytes_7 rfl (lv_at hl 1 rfl) ?_
      refine k_get C0 fg_X9_9 hP 0 rfl rfl dX9_putBytes_8 ?_
      refine lv_aload_n hx hb dX9_putBytes_11 rfl (lv_at hl 1 rfl) ?_
      as_aux_lemma =>
        refine k_get C0 fg_X9_13 hP 0 rfl rfl dX9_putBytes_12 ?_
        refine lv_iload_n hx hb dX9_putBytes_15 rfl (lv_at hl 2 rfl) ?_
        refine lv_iload_n hx hb dX9_putBytes_16 rfl (lv_at hl 0 rfl) ?_
        refine lv_ishr hx hb dX9_putBytes_17 ?_
        refine lv_topi (fun z17 ez17 => ?_)
        have Ez17 := lf_op lf_ishr ez17 (lf_rf p0) (lf_lc 8 (8 : Int) rfl)
        refine lv_sipush (v := 255) hx hb dX9_putBytes_18 rfl ?_
        refine lv_iand hx hb dX9_putBytes_21 ?_
        refine lv_topi (fun z18 ez18 => ?_)
        have h19 : ib z18 0 255 := by rw [ez18]; exact ib_and 8 (by decide) (by decide) 255 (by decide)
        have Ez18 := lf_op lf_iand ez18 Ez17 (lf_lc 255 (255 : Int) rfl)
        refine va_iast hx hb C0.2.2.2.2.2.1 hP hD hS 1 0 rfl rfl (ib_in 1600 h16 rfl) dX9_putBytes_22 (fun H locs hP hD hS => ?_)
        have h21 := ia_upd h13 (Int32.toNatClampNeg z14) (ib_w 0 255 h19 rfl)
        replace hP : va_P (dC, dI) vwCl [(wo_9_rirrrrrrrrrrrirl a_this a_this_tape z14 a_this_plan a_this_spare a_this_now a_this_history a_this_machine a_this_reader a_this_street a_this_choice a_this_ahead a_this_watch a_this_octets x_this_octetCount a_this_refusals x_this_drawn), (wi_0_1600_0 a_this_tape cy (upd f12 (Int32.toNatClampNeg z14) z18))] H := hP
        replace hD := k_D hP hD
        generalize ef20 : upd f12 (Int32.toNatClampNeg z14) z18 = f20 at hP hD h21
        have Ef20 := lf_st ef20 Ef12 Ez14 Ez18
        refine lv_aload_n hx hb dX9_putBytes_23 rfl (lv_at hl 1 rfl) ?_
        refine lv_dup hx hb dX9_putBytes_24 rfl ?_
        refine k_get C0 fg_X9_13 hP 0 rfl rfl dX9_putBytes_25 ?_
        refine lv_iconst (v := 1) hx hb dX9_putBytes_28 rfl ?_
        refine lv_iadd hx hb dX9_putBytes_29 ?_
        refine lv_topi (fun z22 ez22 => ?_)
        have h23 := ib_add h16 (ib_c 1 1 1 rfl) rfl
        rw [← ez22] at h23
        have h24 : ib z22 3 1599 := ib_w 3 1599 h23.1 rfl
        have Ez22 := lf_add h23.2 Ez14 (lf_lc 1 (1 : Int) rfl)
        refine k_put C0 fp_X9_13 hP hD hS 0 rfl rfl rfl (Nat.le_of_ble_eq_true rfl) dX9_putBytes_30 (fun H locs hP hD hS => ?_)
        replace hP : va_P (dC, dI) vwCl [(wo_9_rirrrrrrrrrrrirl a_this a_this_tape z22 a_this_plan a_this_spare a_this_now a_this_history a_this_machine a_this_reader a_this_street a_this_choice a_this_ahead a_this_watch a_this_octets x_this_octetCount a_this_refusals x_this_drawn), (wi_0_1600_0 a_this_tape cy f20)] H := hP
        replace hD := k_D hP hD
        as_aux_lemma =>
          refine lv_iinc (v := 0) (lv' := [(2, .int 0), (0, .ref a_this), (1, .int p0)]) hx hb dX9_putBytes_33 hl (k := 0) rfl (by decide) (Nat.le_of_ble_eq_true rfl) rfl (fun ls hl => ?_)
          refine lv_goto (tgt := 3) hx hb dX9_putBytes_36 rfl ?_
          refine lv_iload_n hx hb dX9_putBytes_3 rfl (lv_at hl 0 rfl) ?_
          refine lv_if_lt (tgt := 39) hx hb dX9_putBytes_4 rfl (fun h9 => absurd h9 (by decide)) (fun _ => ?_)
          refine lv_aload_n hx hb dX9_putBytes_7 rfl (lv_at hl 1 rfl) ?_
          refine k_get C0 fg_X9_9 hP 0 rfl rfl dX9_putBytes_8 ?_
          refine lv_aload_n hx hb dX9_putBytes_11 rfl (lv_at hl 1 rfl) ?_
          refine k_get C0 fg_X9_13 hP 0 rfl rfl dX9_putBytes_12 ?_
          refine lv_iload_n hx hb dX9_putBytes_15 rfl (lv_at hl 2 rfl) ?_
          refine lv_iload_n hx hb dX9_putBytes_16 rfl (lv_at hl 0 rfl) ?_
          refine lv_ishr hx hb dX9_putBytes_17 ?_
          refine lv_topi (fun z25 ez25 => ?_)
          have Ez25 := lf_op lf_ishr ez25 (lf_rf p0) (lf_lc 0 (0 : Int) rfl)
          refine lv_sipush (v := 255) hx hb dX9_putBytes_18 rfl ?_
          refine lv_iand hx hb dX9_putBytes_21 ?_
          refine lv_topi (fun z26 ez26 => ?_)
          have h27 : ib z26 0 255 := by rw [ez26]; exact ib_and 8 (by decide) (by decide) 255 (by decide)
          have Ez26 := lf_op lf_iand ez26 Ez25 (lf_lc 255 (255 : Int) rfl)
          refine va_iast hx hb C0.2.2.2.2.2.1 hP hD hS 1 0 rfl rfl (ib_in 1600 h24 rfl) dX9_putBytes_22 (fun H locs hP hD hS => ?_)
          have h29 := ia_upd h21 (Int32.toNatClampNeg z22) (ib_w 0 255 h27 rfl)
          replace hP : va_P (dC, dI) vwCl [(wo_9_rirrrrrrrrrrrirl a_this a_this_tape z22 a_this_plan a_this_spare a_this_now a_this_history a_this_machine a_this_reader a_this_street a_this_choice a_this_ahead a_this_watch a_this_octets x_this_octetCount a_this_refusals x_this_drawn), (wi_0_1600_0 a_this_tape cy (upd f20 (Int32.toNatClampNeg z22) z26))] H := hP
          replace hD := k_D hP hD
          generalize ef28 : upd f20 (Int32.toNatClampNeg z22) z26 = f28 at hP hD h29
          have Ef28 := lf_st ef28 Ef20 Ez22 Ez26
          refine lv_aload_n hx hb dX9_putBytes_23 rfl (lv_at hl 1 rfl) ?_
          refine lv_dup hx hb dX9_putBytes_24 rfl ?_
          refine k_get C0 fg_X9_13 hP 0 rfl rfl dX9_putBytes_25 ?_
          refine lv_iconst (v := 1) hx hb dX9_putBytes_28 rfl ?_
          refine lv_iadd hx hb dX9_putBytes_29 ?_
          refine lv_topi (fun z30 ez30 => ?_)
          have h31 := ib_add h24 (ib_c 1 1 1 rfl) rfl
          rw [← ez30] at h31
          have h32 : ib z30 4 1600 := ib_w 4 1600 h31.1 rfl
          have Ez30 := lf_add h31.2 Ez22 (lf_lc 1 (1 : Int) rfl)
          refine k_put C0 fp_X9_13 hP hD hS 0 rfl rfl rfl (Nat.le_of_ble_eq_true rfl) dX9_putBytes_30 (fun H locs hP hD hS => ?_)
          replace hP : va_P (dC, dI) vwCl [(wo_9_rirrrrrrrrrrrirl a_this a_this_tape z30 a_this_plan a_this_spare a_this_now a_this_history a_this_machine a_this_reader a_this_street a_this_choice a_this_ahead a_this_watch a_this_octets x_this_octetCount a_this_refusals x_this_drawn), (wi_0_1600_0 a_this_tape cy f28)] H := hP
          replace hD := k_D hP hD
          refine lv_iinc (v := (-8)) (lv' := [(2, .int (-8)), (0, .ref a_this), (1, .int p0)]) hx hb dX9_putBytes_33 hl (k := 0) rfl (by decide) (Nat.le_of_ble_eq_true rfl) rfl (fun ls hl => ?_)
          refine lv_goto (tgt := 3) hx hb dX9_putBytes_36 rfl ?_
          refine lv_iload_n hx hb dX9_putBytes_3 rfl (lv_at hl 0 rfl) ?_
          refine lv_if_lt (tgt := 39) hx hb dX9_putBytes_4 rfl (fun _ => ?_) (fun h9 => absurd (by decide) h9)
          subst hQ; exact k_vret hx hb hr hlk ((z30, f28)) hS ⟨ib_w 4 1600 h32 rfl, h29, by have := (hx_this_tapeSize).1; have := (hx_this_tapeSize).2; have := (h32).1; have := (h32).2; have := h31.2; have : (1 : Int32).toInt = 1 := rfl; have := (h24).1; have := (h24).2; have := h23.2; have := (h16).1; have := (h16).2; have := h15.2; have := (h8).1; have := (h8).2; have := h7.2; omega, (hO.symm.trans (by rw [lf_u Ez30]; rw [lf_ua Ef28]; exact hq))⟩ hP hD (Nat.le_of_ble_eq_true rfl) (Nat.le_of_ble_eq_true rfl) dX9_putBytes_39
set_option maxHeartbeats 4000000 in
set_option maxRecDepth 100000 in
theorem s_X9_feed (l : Launch) (dC : Nat → ClassId) (dI : Nat → Nat → Nat) (cy : Nat → ClassId) (sq : Nat → Nat) (a_this : Nat) (a_this_tape : Nat) (g_this_tape : Nat → Int32) (x_this_tapeSize : Int32) (a_this_plan : Nat) (a_this_spare : Nat) (a_this_now : Nat) (a_this_history : Nat) (a_this_machine : Nat) (a_this_reader : Nat) (a_this_street : Nat) (a_this_choice : Nat) (a_this_ahead : Nat) (a_this_watch : Nat) (a_this_octets : Nat) (x_this_octetCount : Int32) (a_this_refusals : Nat) (g_this_refusals : Nat → Int32) (x_this_drawn : Int64) (p0 : Int32) (p1 : Int32) (p2 : Int32) (p3 : Int32) (p4 : Int32) (hg_this_tape : ia g_this_tape 1600 0 255) (hx_this_tapeSize : ib x_this_tapeSize 0 1600) : k_Met l yX9_feed cX9_feed 6 (some .int) { frames := 1, cells := 0, slots := 0, locals := 22 } dC dI cy sq [.ref a_this, .int p0, .int p1, .int p2, .int p3, .int p4] [(wo_9_rirrrrrrrrrrrirl a_this a_this_tape x_this_tapeSize a_this_plan a_this_spare a_this_now a_this_history a_this_machine a_this_reader a_this_street a_this_choice a_this_ahead a_this_watch a_this_octets x_this_octetCount a_this_refusals x_this_drawn), (wi_0_1600_0 a_this_tape cy g_this_tape), (wi_0_6_0 a_this_refusals cy g_this_refusals)] (k_Qi dC dI (fun (r : Int32) (u : Int32 × (Nat → Int32) × (Nat → Int32)) => match u with | (n0, n1, n2) => ib r (-1) 1600 ∧ ib n0 4 1600 ∧ ia n1 1600 0 255 ∧ ((x_this_tapeSize.toInt + 20 ≤ 1600 ∧ n0.toInt = x_this_tapeSize.toInt + 20 ∧ r = n0) ∨ (1600 < x_this_tapeSize.toInt + 20 ∧ n0 = x_this_tapeSize ∧ r = -1)) ∧ (F_X9_feed (lf_A g_this_tape) (Int32.toInt x_this_tapeSize) (lf_A g_this_refusals) (Int32.toInt p0) (Int32.toInt p1) (Int32.toInt p2) (Int32.toInt p3) (Int32.toInt p4) = ((Int32.toInt r), (Int32.toInt n0), (lf_A n1), (lf_A n2)))) (fun u : Int32 × (Nat → Int32) × (Nat → Int32) => match u with | (n0, n1, n2) => [(wo_9_rirrrrrrrrrrrirl a_this a_this_tape n0 a_this_plan a_this_spare a_this_now a_this_history a_this_machine a_this_reader a_this_street a_this_choice a_this_ahead a_this_watch a_this_octets x_this_octetCount a_this_refusals x_this_drawn), (wi_0_1600_0 a_this_tape cy n1), (wi_0_6_0 a_this_refusals cy n2)])) := by
  refine k_ofW2 (by decide +kernel) (Nat.le_of_ble_eq_true rfl) ?_
  intro p e s m below meth c A ls H locs args Q hQ C0 hZ hr hlk hin hP hD hA hS hl
  have C0 : k_cx p s m args c cX9_feed 6 RX9 dC dI cy sq := C0
  have hx := C0.1
  have hb := C0.2.1
  have hl : lv_has ls 6 [(0, .ref a_this), (1, .int p0), (2, .int p1), (3, .int p2), (4, .int p3), (5, .int p4)] := hl
  obtain ⟨O, hO⟩ : ∃ o, o = F_X9_feed (lf_A g_this_tape) (Int32.toInt x_this_tapeSize) (lf_A g_this_refusals) (Int32.toInt p0) (Int32.toInt p1) (Int32.toInt p2) (Int32.toInt p3) (Int32.toInt p4) := ⟨_, rfl⟩
  have hq := hO
  unfold F_X9_feed at hq
  refine lv_aload_n hx hb dX9_feed_0 rfl (lv_at hl 0 rfl) ?_
  refine k_get C0 fg_X9_13 hP 0 rfl rfl dX9_feed_1 ?_
  refine lv_bipush (v := 20) hx hb dX9_feed_4 rfl ?_
  refine lv_iadd hx hb dX9_feed_6 ?_
  refine lv_topi (fun z1 ez1 => ?_)
  have h2 := ib_add hx_this_tapeSize (ib_c 20 20 20 rfl) rfl
  rw [← ez1] at h2
  have h3 : ib z1 20 1620 := ib_w 20 1620 h2.1 rfl
  have Ez1 := lf_add h2.2 (lf_rf x_this_tapeSize) (lf_lc 20 (20 : Int) rfl)
  refine lv_sipush (v := 1600) hx hb dX9_feed_7 rfl ?_
  refine lv_icmp_le (tgt := 19) hx hb dX9_feed_10 rfl (fun c4 => ?_) (fun c4 => ?_)
  · as_aux_lemma =>
      replace hq := lf_pos hq (lf_le Ez1 (lf_lc 1600 (1600 : Int) rfl) c4)
      have h5 := ib_le h3 (ib_c 1600 1600 1600 rfl) c4
      have h6 : ib z1 20 1600 := ib_w 20 1600 h5.1 rfl
      have h7 : ib x_this_tapeSize 0 1580 := ⟨by have := h2.2; have : (20 : Int32).toInt = 20 := rfl; have := (h6).1; have := (h6).2; have := (hx_this_tapeSize).1; have := (hx_this_tapeSize).2; omega, by have := h2.2; have : (20 : Int32).toInt = 20 := rfl; have := (h6).1; have := (h6).2; have := (hx_this_tapeSize).1; have := (hx_this_tapeSize).2; omega⟩
      refine lv_aload_n hx hb dX9_feed_19 rfl (lv_at hl 0 rfl) ?_
      refine lv_iload_n hx hb dX9_feed_20 rfl (lv_at hl 1 rfl) ?_
      refine k_jvm hP hD hS hA [0, 1] [false, false, true] rfl rfl rfl 0 0 (Nat.le_of_ble_eq_true rfl) (Nat.le_of_ble_eq_true rfl) (fun hPc hDc => k_runV (As := [.int p0]) (rest := []) C0 hZ hS hA (s_X9_putBytes_f_0_1580 l dC dI cy sq a_this a_this_tape g_this_tape x_this_tapeSize a_this_plan a_this_spare a_this_now a_this_history a_this_machine a_this_reader a_this_street a_this_choice a_this_ahead a_this_watch a_this_octets x_this_octetCount a_this_refusals x_this_drawn p0 hg_this_tape (ib_w 0 1580 h7 rfl)) mV_X9_106 hPc hDc rfl rfl rfl hl rfl rfl (Nat.le_of_ble_eq_true rfl) ⟨(Nat.le_of_ble_eq_true rfl), (Nat.le_of_ble_eq_true rfl)⟩ ⟨(Nat.le_of_ble_eq_true rfl), (Nat.le_of_ble_eq_true rfl)⟩ dX9_feed_21) (fun u9 H locs hw hP hD hS => ?_)
      obtain ⟨v10, f11⟩ := u9
      try dsimp only at hP hD hw
      replace hP : va_P (dC, dI) vwCl [(wi_0_6_0 a_this_refusals cy g_this_refusals), (wo_9_rirrrrrrrrrrrirl a_this a_this_tape v10 a_this_plan a_this_spare a_this_now a_this_history a_this_machine a_this_reader a_this_street a_this_choice a_this_ahead a_this_watch a_this_octets x_this_octetCount a_this_refusals x_this_drawn), (wi_0_1600_0 a_this_tape cy f11)] H := hP
      replace hD := k_D hP hD
      obtain ⟨h12, h13, h14, h15⟩ := hw
      replace hq := lf_p1 hq h15
      refine lv_aload_n hx hb dX9_feed_24 rfl (lv_at hl 0 rfl) ?_
      refine lv_iload_n hx hb dX9_feed_25 rfl (lv_at hl 2 rfl) ?_
      refine k_jvm hP hD hS hA [1, 2] [true] rfl rfl rfl 0 0 (Nat.le_of_ble_eq_true rfl) (Nat.le_of_ble_eq_true rfl) (fun hPc hDc => k_runV (As := [.int p1]) (rest := []) C0 hZ hS hA (s_X9_putBytes_f_0_1584 l dC dI cy sq a_this a_this_tape f11 v10 a_this_plan a_this_spare a_this_now a_this_history a_this_machine a_this_reader a_this_street a_this_choice a_this_ahead a_this_watch a_this_octets x_this_octetCount a_this_refusals x_this_drawn p1 h13 (ib_w 0 1584 h12 rfl)) mV_X9_106 hPc hDc rfl rfl rfl hl rfl rfl (Nat.le_of_ble_eq_true rfl) ⟨(Nat.le_of_ble_eq_true rfl), (Nat.le_of_ble_eq_true rfl)⟩ ⟨(Nat.le_of_ble_eq_true rfl), (Nat.le_of_ble_eq_true rfl)⟩ dX9_feed_26) (fun u17 H locs hw hP hD hS => ?_)
      obtain ⟨v18, f19⟩ := u17
      try dsimp only at hP hD hw
      replace hP : va_P (dC, dI) vwCl [(wi_0_6_0 a_this_refusals cy g_this_refusals), (wo_9_rirrrrrrrrrrrirl a_this a_this_tape v18 a_this_plan a_this_spare a_this_now a_this_history a_this_machine a_this_reader a_this_street a_this_choice a_this_ahead a_this_watch a_this_octets x_this_octetCount a_this_refusals x_this_drawn), (wi_0_1600_0 a_this_tape cy f19)] H := hP
      replace hD := k_D hP hD
      obtain ⟨h20, h21, h22, h23⟩ := hw
      replace hq := lf_p1 hq h23
      refine lv_aload_n hx hb dX9_feed_29 rfl (lv_at hl 0 rfl) ?_
      refine lv_iload_n hx hb dX9_feed_30 rfl (lv_at hl 3 rfl) ?_
      refine k_jvm hP hD hS hA [1, 2] [true] rfl rfl rfl 0 0 (Nat.le_of_ble_eq_true rfl) (Nat.le_of_ble_eq_true rfl) (fun hPc hDc => k_runV (As := [.int p2]) (rest := []) C0 hZ hS hA (s_X9_putBytes_f_0_1588 l dC dI cy sq a_this a_this_tape f19 v18 a_this_plan a_this_spare a_this_now a_this_history a_this_machine a_this_reader a_this_street a_this_choice a_this_ahead a_this_watch a_this_octets x_this_octetCount a_this_refusals x_this_drawn p2 h21 (ib_w 0 1588 h20 rfl)) mV_X9_106 hPc hDc rfl rfl rfl hl rfl rfl (Nat.le_of_ble_eq_true rfl) ⟨(Nat.le_of_ble_eq_true rfl), (Nat.le_of_ble_eq_true rfl)⟩ ⟨(Nat.le_of_ble_eq_true rfl), (Nat.le_of_ble_eq_true rfl)⟩ dX9_feed_31) (fun u25 H locs hw hP hD hS => ?_)
      obtain ⟨v26, f27⟩ := u25
      try dsimp only at hP hD hw
      replace hP : va_P (dC, dI) vwCl [(wi_0_6_0 a_this_refusals cy g_this_refusals), (wo_9_rirrrrrrrrrrrirl a_this a_this_tape v26 a_this_plan a_this_spare a_this_now a_this_history a_this_machine a_this_reader a_this_street a_this_choice a_this_ahead a_this_watch a_this_octets x_this_octetCount a_this_refusals x_this_drawn), (wi_0_1600_0 a_this_tape cy f27)] H := hP
      replace hD := k_D hP hD
      obtain ⟨h28, h29, h30, h31⟩ := hw
      as_aux_lemma =>
        replace hq := lf_p1 hq h31
        refine lv_aload_n hx hb dX9_feed_34 rfl (lv_at hl 0 rfl) ?_
        refine lv_iload hx hb dX9_feed_35 (lv_at hl 4 rfl) ?_
        refine k_jvm hP hD hS hA [1, 2] [true] rfl rfl rfl 0 0 (Nat.le_of_ble_eq_true rfl) (Nat.le_of_ble_eq_true rfl) (fun hPc hDc => k_runV (As := [.int p3]) (rest := []) C0 hZ hS hA (s_X9_putBytes_f_0_1592 l dC dI cy sq a_this a_this_tape f27 v26 a_this_plan a_this_spare a_this_now a_this_history a_this_machine a_this_reader a_this_street a_this_choice a_this_ahead a_this_watch a_this_octets x_this_octetCount a_this_refusals x_this_drawn p3 h29 (ib_w 0 1592 h28 rfl)) mV_X9_106 hPc hDc rfl rfl rfl hl rfl rfl (Nat.le_of_ble_eq_true rfl) ⟨(Nat.le_of_ble_eq_true rfl), (Nat.le_of_ble_eq_true rfl)⟩ ⟨(Nat.le_of_ble_eq_true rfl), (Nat.le_of_ble_eq_true rfl)⟩ dX9_feed_37) (fun u33 H locs hw hP hD hS => ?_)
        obtain ⟨v34, f35⟩ := u33
        try dsimp only at hP hD hw
        replace hP : va_P (dC, dI) vwCl [(wi_0_6_0 a_this_refusals cy g_this_refusals), (wo_9_rirrrrrrrrrrrirl a_this a_this_tape v34 a_this_plan a_this_spare a_this_now a_this_history a_this_machine a_this_reader a_this_street a_this_choice a_this_ahead a_this_watch a_this_octets x_this_octetCount a_this_refusals x_this_drawn), (wi_0_1600_0 a_this_tape cy f35)] H := hP
        replace hD := k_D hP hD
        obtain ⟨h36, h37, h38, h39⟩ := hw
        replace hq := lf_p1 hq h39
        refine lv_aload_n hx hb dX9_feed_40 rfl (lv_at hl 0 rfl) ?_
        refine lv_iload hx hb dX9_feed_41 (lv_at hl 5 rfl) ?_
        refine k_jvm hP hD hS hA [1, 2] [true] rfl rfl rfl 0 0 (Nat.le_of_ble_eq_true rfl) (Nat.le_of_ble_eq_true rfl) (fun hPc hDc => k_runV (As := [.int p4]) (rest := []) C0 hZ hS hA (s_X9_putBytes_f_0_1596 l dC dI cy sq a_this a_this_tape f35 v34 a_this_plan a_this_spare a_this_now a_this_history a_this_machine a_this_reader a_this_street a_this_choice a_this_ahead a_this_watch a_this_octets x_this_octetCount a_this_refusals x_this_drawn p4 h37 (ib_w 0 1596 h36 rfl)) mV_X9_106 hPc hDc rfl rfl rfl hl rfl rfl (Nat.le_of_ble_eq_true rfl) ⟨(Nat.le_of_ble_eq_true rfl), (Nat.le_of_ble_eq_true rfl)⟩ ⟨(Nat.le_of_ble_eq_true rfl), (Nat.le_of_ble_eq_true rfl)⟩ dX9_feed_43) (fun u41 H locs hw hP hD hS => ?_)
        obtain ⟨v42, f43⟩ := u41
        try dsimp only at hP hD hw
        replace hP : va_P (dC, dI) vwCl [(wi_0_6_0 a_this_refusals cy g_this_refusals), (wo_9_rirrrrrrrrrrrirl a_this a_this_tape v42 a_this_plan a_this_spare a_this_now a_this_history a_this_machine a_this_reader a_this_street a_this_choice a_this_ahead a_this_watch a_this_octets x_this_octetCount a_this_refusals x_this_drawn), (wi_0_1600_0 a_this_tape cy f43)] H := hP
        replace hD := k_D hP hD
        obtain ⟨h44, h45, h46, h47⟩ := hw
        replace hq := lf_p1 hq h47
        refine lv_aload_n hx hb dX9_feed_46 rfl (lv_at hl 0 rfl) ?_
        refine k_get C0 fg_X9_13 hP 1 rfl rfl dX9_feed_47 ?_
        subst hQ; exact k_iret hx hb hr hlk rfl ((v42, f43, g_this_refusals)) hS ⟨ib_w (-1) 1600 h44 rfl, ib_w 4 1600 h44 rfl, h45, Or.inl ⟨by have := (h7).1; have := (h7).2; have := (h44).1; have := (h44).2; have := h46; have := (h36).1; have := (h36).2; have := h38; have := (h28).1; have := (h28).2; have := h30; have := (h20).1; have := (h20).2; have := h22; have := (h12).1; have := (h12).2; have := h14; omega, by have := (h7).1; have := (h7).2; have := (h44).1; have := (h44).2; have := h46; have := (h36).1; have := (h36).2; have := h38; have := (h28).1; have := (h28).2; have := h30; have := (h20).1; have := (h20).2; have := h22; have := (h12).1; have := (h12).2; have := h14; omega, rfl⟩, (hO.symm.trans (by exact hq))⟩ (hP.sub [1, 2, 0] rfl) (hD.sub [1, 2, 0] rfl rfl) (Nat.le_of_ble_eq_true rfl) (Nat.le_of_ble_eq_true rfl) dX9_feed_50
  · replace hq := lf_neg hq (lf_nle Ez1 (lf_lc 1600 (1600 : Int) rfl) c4)
    have h48 := ib_nle h3 (ib_c 1600 1600 1600 rfl) c4
    have h49 : ib z1 1601 1620 := ib_w 1601 1620 h48.1 rfl
    have h50 : ib x_this_tapeSize 1581 1600 := ⟨by have := h2.2; have : (20 : Int32).toInt = 20 := rfl; have := (h49).1; have := (h49).2; have := (hx_this_tapeSize).1; have := (hx_this_tapeSize).2; omega, by have := h2.2; have : (20 : Int32).toInt = 20 := rfl; have := (h49).1; have := (h49).2; have := (hx_this_tapeSize).1; have := (hx_this_tapeSize).2; omega⟩
    refine lv_aload_n hx hb dX9_feed_13 rfl (lv_at hl 0 rfl) ?_
    refine lv_iconst (v := 0) hx hb dX9_feed_14 rfl ?_
    refine k_jim hP hD hS hA [0, 2] [false, true] rfl rfl rfl 0 0 (Nat.le_of_ble_eq_true rfl) (Nat.le_of_ble_eq_true rfl) (fun hPc hDc => k_runV (As := [.int 0]) (rest := []) C0 hZ hS hA (s_X9_refuse l dC dI cy sq a_this a_this_tape x_this_tapeSize a_this_plan a_this_spare a_this_now a_this_history a_this_machine a_this_reader a_this_street a_this_choice a_this_ahead a_this_watch a_this_octets x_this_octetCount a_this_refusals g_this_refusals x_this_drawn 0 (ib_w 0 5 (ib_c 0 0 0 rfl) rfl)) mV_X9_102 hPc hDc rfl rfl rfl hl rfl rfl (Nat.le_of_ble_eq_true rfl) ⟨(Nat.le_of_ble_eq_true rfl), (Nat.le_of_ble_eq_true rfl)⟩ ⟨(Nat.le_of_ble_eq_true rfl), (Nat.le_of_ble_eq_true rfl)⟩ dX9_feed_15) (fun r51 u52 H locs hw hP hD hS => ?_)
    obtain ⟨f53, ef53⟩ : ∃ z, z = u52 := ⟨_, rfl⟩; subst ef53
    try dsimp only at hP hD hw
    replace hP : va_P (dC, dI) vwCl [(wi_0_1600_0 a_this_tape cy g_this_tape), (wo_9_rirrrrrrrrrrrirl a_this a_this_tape x_this_tapeSize a_this_plan a_this_spare a_this_now a_this_history a_this_machine a_this_reader a_this_street a_this_choice a_this_ahead a_this_watch a_this_octets x_this_octetCount a_this_refusals x_this_drawn), (wi_0_6_0 a_this_refusals cy f53)] H := hP
    replace hD := k_D hP hD
    obtain ⟨h54, h55⟩ := hw
    have h55 := by have h9 := h55; try simp only [show (0 : Int32).toInt = (0 : Int) from rfl] at h9; exact h9
    replace hq := lf_p1 hq h55
    subst hQ; exact k_iret hx hb hr hlk rfl ((x_this_tapeSize, g_this_tape, f53)) hS ⟨ib_w (-1) 1600 h54 rfl, ib_w 4 1600 h50 rfl, hg_this_tape, Or.inr ⟨by have := (h50).1; have := (h50).2; omega, rfl, ib_one h54 rfl⟩, (hO.symm.trans (by exact hq))⟩ (hP.sub [1, 0, 2] rfl) (hD.sub [1, 0, 2] rfl rfl) (Nat.le_of_ble_eq_true rfl) (Nat.le_of_ble_eq_true rfl) dX9_feed_18
set_option maxHeartbeats 4000000 in
set_option maxRecDepth 100000 in
theorem s_X9_fits (l : Launch) (dC : Nat → ClassId) (dI : Nat → Nat → Nat) (cy : Nat → ClassId) (sq : Nat → Nat) (a_this : Nat) (a_this_tape : Nat) (x_this_tapeSize : Int32) (a_this_plan : Nat) (x_this_plan_cycle : Int32) (x_this_plan_green : Int32) (x_this_plan_rule : Int32) (x_this_plan_least : Int32) (x_this_plan_away : Int32) (x_this_plan_statements : Int32) (x_this_plan_kinds : Int32) (a_this_plan_calm : Nat) (g_this_plan_calm : Nat → Int32) (a_this_plan_pace : Nat) (g_this_plan_pace : Nat → Int32) (a_this_plan_trusts : Nat) (x_this_plan_walkers : Int32) (a_this_plan_kindOf : Nat) (g_this_plan_kindOf : Nat → Int32) (a_this_plan_comesAt : Nat) (g_this_plan_comesAt : Nat → Int32) (a_this_plan_comers : Nat) (g_this_plan_comers : Nat → Int32) (a_this_plan_names : Nat) (a_this_plan_code : Nat) (g_this_plan_code : Nat → Int32) (x_this_plan_size : Int32) (a_this_plan_spans : Nat) (g_this_plan_spans : Nat → Int32) (a_this_spare : Nat) (a_this_now : Nat) (x_this_now_day : Int32) (x_this_now_rule : Int32) (x_this_now_green : Int32) (a_this_now_trusts : Nat) (g_this_now_trusts : Nat → Int32) (a_this_history : Nat) (a_this_machine : Nat) (a_this_machine_facts : Nat) (g_this_machine_facts : Nat → Int32) (a_this_machine_stack : Nat) (g_this_machine_stack : Nat → Int32) (a_this_reader : Nat) (a_this_street : Nat) (x_this_street_day : Int32) (a_this_street_trusts : Nat) (g_this_street_trusts : Nat → Int32) (x_this_street_rule : Int32) (x_this_street_green : Int32) (x_this_street_absent : Int32) (x_this_street_asksReds : Int32) (a_this_street_cars : Nat) (g_this_street_cars : Nat → Int32) (a_this_street_gaps : Nat) (g_this_street_gaps : Nat → Int32) (a_this_street_known : Nat) (g_this_street_known : Nat → Int32) (a_this_street_left : Nat) (g_this_street_left : Nat → Int32) (a_this_street_leaves : Nat) (g_this_street_leaves : Nat → Int32) (x_this_street_pressed : Int32) (x_this_street_crossed : Int32) (x_this_street_went : Int32) (x_this_street_harmed : Int32) (a_this_choice : Nat) (a_this_ahead : Nat) (a_this_watch : Nat) (a_this_watch_seenWalker : Nat) (g_this_watch_seenWalker : Nat → Int32) (a_this_watch_seenSecond : Nat) (g_this_watch_seenSecond : Nat → Int32) (x_this_watch_rows : Int32) (x_this_watch_compared : Int32) (a_this_watch_seconds : Nat) (g_this_watch_seconds : Nat → Int32) (x_this_watch_found : Int32) (x_this_watch_foundRules : Int32) (x_this_watch_foundGreen : Int32) (x_this_watch_chosen : Int32) (x_this_watch_chosenLeft : Int32) (a_this_octets : Nat) (x_this_octetCount : Int32) (a_this_refusals : Nat) (x_this_drawn : Int64) (p0 : Int32) (hx_this_plan_cycle : ib x_this_plan_cycle 0 120) (hx_this_plan_least : ib x_this_plan_least 0 99) (hx_this_plan_kinds : ib x_this_plan_kinds 0 6) (hx_this_plan_walkers : ib x_this_plan_walkers 0 12) (hg_this_plan_kindOf : ia g_this_plan_kindOf 12 0 5) (hg_this_plan_comesAt : ia g_this_plan_comesAt 12 0 199) (hg_this_plan_spans : ia g_this_plan_spans 6 0 1600) (hx_this_street_asksReds : ib x_this_street_asksReds 0 1) (hg_this_watch_seenWalker : ia g_this_watch_seenWalker 16 0 11) (hx_this_watch_rows : ib x_this_watch_rows 0 16) (hx_this_watch_compared : ib x_this_watch_compared 0 1) (hx_this_watch_found : ib x_this_watch_found 0 60) : k_Met l yX9_fits cX9_fits 2 (some .int) { frames := 7, cells := 0, slots := 0, locals := 173 } dC dI cy sq [.ref a_this, .int p0] [(wo_9_rirrrrrrrrrrrirl a_this a_this_tape x_this_tapeSize a_this_plan a_this_spare a_this_now a_this_history a_this_machine a_this_reader a_this_street a_this_choice a_this_ahead a_this_watch a_this_octets x_this_octetCount a_this_refusals x_this_drawn), (wo_4_iiiiiiirrrirrrrrir a_this_plan x_this_plan_cycle x_this_plan_green x_this_plan_rule x_this_plan_least x_this_plan_away x_this_plan_statements x_this_plan_kinds a_this_plan_calm a_this_plan_pace a_this_plan_trusts x_this_plan_walkers a_this_plan_kindOf a_this_plan_comesAt a_this_plan_comers a_this_plan_names a_this_plan_code x_this_plan_size a_this_plan_spans), (wo_8_rrriiriiiii a_this_watch a_this_street a_this_watch_seenWalker a_this_watch_seenSecond x_this_watch_rows x_this_watch_compared a_this_watch_seconds x_this_watch_found x_this_watch_foundRules x_this_watch_foundGreen x_this_watch_chosen x_this_watch_chosenLeft), (wo_7_rririiiirrrrriiii a_this_street a_this_machine a_this_plan x_this_street_day a_this_street_trusts x_this_street_rule x_this_street_green x_this_street_absent x_this_street_asksReds a_this_street_cars a_this_street_gaps a_this_street_known a_this_street_left a_this_street_leaves x_this_street_pressed x_this_street_crossed x_this_street_went x_this_street_harmed), (wi_0_720_0 a_this_watch_seconds cy g_this_watch_seconds), (wo_6_iiir a_this_now x_this_now_day x_this_now_rule x_this_now_green a_this_now_trusts), (wo_3_rr a_this_machine a_this_machine_facts a_this_machine_stack), (wi_0_13_0 a_this_machine_facts cy g_this_machine_facts), (wi_0_6_0 a_this_plan_spans cy g_this_plan_spans), (wi_0_1600_0 a_this_plan_code cy g_this_plan_code), (wi_0_64_0 a_this_machine_stack cy g_this_machine_stack), (wi_0_320_0 a_this_street_cars cy g_this_street_cars), (wi_0_320_0 a_this_street_gaps cy g_this_street_gaps), (wi_0_6_0 a_this_street_trusts cy g_this_street_trusts), (wi_0_6_0 a_this_now_trusts cy g_this_now_trusts), (wi_0_3600_0 a_this_street_known cy g_this_street_known), (wi_0_12_0 a_this_plan_kindOf cy g_this_plan_kindOf), (wi_0_200_0 a_this_plan_comers cy g_this_plan_comers), (wi_0_300_0 a_this_street_left cy g_this_street_left), (wi_0_12_0 a_this_street_leaves cy g_this_street_leaves), (wi_0_6_0 a_this_plan_pace cy g_this_plan_pace), (wi_0_12_0 a_this_plan_comesAt cy g_this_plan_comesAt), (wi_0_6_0 a_this_plan_calm cy g_this_plan_calm), (wi_0_16_0 a_this_watch_seenWalker cy g_this_watch_seenWalker), (wi_0_16_0 a_this_watch_seenSecond cy g_this_watch_seenSecond)] (k_Qi dC dI (fun (r : Int32) (u : Int32 × Int32 × Int32 × Int32 × Int32 × Int32 × Int32 × Int32 × Int32 × Int32 × Int32 × Int32 × Int32 × Int32 × (Nat → Int32) × (Nat → Int32) × (Nat → Int32) × (Nat → Int32) × (Nat → Int32) × (Nat → Int32) × (Nat → Int32) × (Nat → Int32) × (Nat → Int32)) => match u with | (n0, n1, n2, n3, n4, n5, n6, n7, n8, n9, n10, n11, n12, n13, n14, n15, n16, n17, n18, n19, n20, n21, n22) => ib n0 0 1 ∧ ib n1 0 60 ∧ (F_X9_fits (Int32.toInt x_this_plan_cycle) (Int32.toInt x_this_plan_least) (Int32.toInt x_this_plan_kinds) (lf_A g_this_plan_calm) (lf_A g_this_plan_pace) (Int32.toInt x_this_plan_walkers) (lf_A g_this_plan_kindOf) (lf_A g_this_plan_comesAt) (lf_A g_this_plan_comers) (lf_A g_this_plan_code) (lf_A g_this_plan_spans) (Int32.toInt x_this_now_day) (lf_A g_this_now_trusts) (lf_A g_this_machine_facts) (lf_A g_this_machine_stack) (Int32.toInt x_this_street_day) (lf_A g_this_street_trusts) (Int32.toInt x_this_street_rule) (Int32.toInt x_this_street_green) (Int32.toInt x_this_street_absent) (Int32.toInt x_this_street_asksReds) (lf_A g_this_street_cars) (lf_A g_this_street_gaps) (lf_A g_this_street_known) (lf_A g_this_street_left) (lf_A g_this_street_leaves) (Int32.toInt x_this_street_pressed) (Int32.toInt x_this_street_crossed) (Int32.toInt x_this_street_went) (Int32.toInt x_this_street_harmed) (lf_A g_this_watch_seenWalker) (lf_A g_this_watch_seenSecond) (Int32.toInt x_this_watch_rows) (Int32.toInt x_this_watch_compared) (lf_A g_this_watch_seconds) (Int32.toInt x_this_watch_found) (Int32.toInt x_this_watch_foundRules) (Int32.toInt x_this_watch_foundGreen) (Int32.toInt x_this_watch_chosen) (Int32.toInt x_this_watch_chosenLeft) (Int32.toInt p0) = ((Int32.toInt r), (Int32.toInt n0), (Int32.toInt n1), (Int32.toInt n2), (Int32.toInt n3), (Int32.toInt n4), (Int32.toInt n5), (Int32.toInt n6), (Int32.toInt n7), (Int32.toInt n8), (Int32.toInt n9), (Int32.toInt n10), (Int32.toInt n11), (Int32.toInt n12), (Int32.toInt n13), (lf_A n14), (lf_A n15), (lf_A n16), (lf_A n17), (lf_A n18), (lf_A n19), (lf_A n20), (lf_A n21), (lf_A n22)))) (fun u : Int32 × Int32 × Int32 × Int32 × Int32 × Int32 × Int32 × Int32 × Int32 × Int32 × Int32 × Int32 × Int32 × Int32 × (Nat → Int32) × (Nat → Int32) × (Nat → Int32) × (Nat → Int32) × (Nat → Int32) × (Nat → Int32) × (Nat → Int32) × (Nat → Int32) × (Nat → Int32) => match u with | (n0, n1, n2, n3, n4, n5, n6, n7, n8, n9, n10, n11, n12, n13, n14, n15, n16, n17, n18, n19, n20, n21, n22) => [(wo_9_rirrrrrrrrrrrirl a_this a_this_tape x_this_tapeSize a_this_plan a_this_spare a_this_now a_this_history a_this_machine a_this_reader a_this_street a_this_choice a_this_ahead a_this_watch a_this_octets x_this_octetCount a_this_refusals x_this_drawn), (wo_4_iiiiiiirrrirrrrrir a_this_plan x_this_plan_cycle x_this_plan_green x_this_plan_rule x_this_plan_least x_this_plan_away x_this_plan_statements x_this_plan_kinds a_this_plan_calm a_this_plan_pace a_this_plan_trusts x_this_plan_walkers a_this_plan_kindOf a_this_plan_comesAt a_this_plan_comers a_this_plan_names a_this_plan_code x_this_plan_size a_this_plan_spans), (wo_8_rrriiriiiii a_this_watch a_this_street a_this_watch_seenWalker a_this_watch_seenSecond x_this_watch_rows n0 a_this_watch_seconds n1 n2 n3 n4 n5), (wo_7_rririiiirrrrriiii a_this_street a_this_machine a_this_plan n6 a_this_street_trusts n7 n8 n9 x_this_street_asksReds a_this_street_cars a_this_street_gaps a_this_street_known a_this_street_left a_this_street_leaves n10 n11 n12 n13), (wi_0_720_0 a_this_watch_seconds cy n14), (wo_6_iiir a_this_now x_this_now_day x_this_now_rule x_this_now_green a_this_now_trusts), (wo_3_rr a_this_machine a_this_machine_facts a_this_machine_stack), (wi_0_13_0 a_this_machine_facts cy n15), (wi_0_6_0 a_this_plan_spans cy g_this_plan_spans), (wi_0_1600_0 a_this_plan_code cy g_this_plan_code), (wi_0_64_0 a_this_machine_stack cy n16), (wi_0_320_0 a_this_street_cars cy n17), (wi_0_320_0 a_this_street_gaps cy n18), (wi_0_6_0 a_this_street_trusts cy n19), (wi_0_6_0 a_this_now_trusts cy g_this_now_trusts), (wi_0_3600_0 a_this_street_known cy n20), (wi_0_12_0 a_this_plan_kindOf cy g_this_plan_kindOf), (wi_0_200_0 a_this_plan_comers cy g_this_plan_comers), (wi_0_300_0 a_this_street_left cy n21), (wi_0_12_0 a_this_street_leaves cy n22), (wi_0_6_0 a_this_plan_pace cy g_this_plan_pace), (wi_0_12_0 a_this_plan_comesAt cy g_this_plan_comesAt), (wi_0_6_0 a_this_plan_calm cy g_this_plan_calm), (wi_0_16_0 a_this_watch_seenWalker cy g_this_watch_seenWalker), (wi_0_16_0 a_this_watch_seenSecond cy g_this_watch_seenSecond)])) := by
  refine k_ofW2 (by decide +kernel) (Nat.le_of_ble_eq_true rfl) ?_
  intro p e s m below meth c A ls H locs args Q hQ C0 hZ hr hlk hin hP hD hA hS hl
  have C0 : k_cx p s m args c cX9_fits 2 RX9 dC dI cy sq := C0
  have hx := C0.1
  have hb := C0.2.1
  have hl : lv_has ls 2 [(0, .ref a_this), (1, .int p0)] := hl
  obtain ⟨O, hO⟩ : ∃ o, o = F_X9_fits (Int32.toInt x_this_plan_cycle) (Int32.toInt x_this_plan_least) (Int32.toInt x_this_plan_kinds) (lf_A g_this_plan_calm) (lf_A g_this_plan_pace) (Int32.toInt x_this_plan_walkers) (lf_A g_this_plan_kindOf) (lf_A g_this_plan_comesAt) (lf_A g_this_plan_comers) (lf_A g_this_plan_code) (lf_A g_this_plan_spans) (Int32.toInt x_this_now_day) (lf_A g_this_now_trusts) (lf_A g_this_machine_facts) (lf_A g_this_machine_stack) (Int32.toInt x_this_street_day) (lf_A g_this_street_trusts) (Int32.toInt x_this_street_rule) (Int32.toInt x_this_street_green) (Int32.toInt x_this_street_absent) (Int32.toInt x_this_street_asksReds) (lf_A g_this_street_cars) (lf_A g_this_street_gaps) (lf_A g_this_street_known) (lf_A g_this_street_left) (lf_A g_this_street_leaves) (Int32.toInt x_this_street_pressed) (Int32.toInt x_this_street_crossed) (Int32.toInt x_this_street_went) (Int32.toInt x_this_street_harmed) (lf_A g_this_watch_seenWalker) (lf_A g_this_watch_seenSecond) (Int32.toInt x_this_watch_rows) (Int32.toInt x_this_watch_compared) (lf_A g_this_watch_seconds) (Int32.toInt x_this_watch_found) (Int32.toInt x_this_watch_foundRules) (Int32.toInt x_this_watch_foundGreen) (Int32.toInt x_this_watch_chosen) (Int32.toInt x_this_watch_chosenLeft) (Int32.toInt p0) := ⟨_, rfl⟩
  have hq := hO
  unfold F_X9_fits at hq
  refine lv_aload_n hx hb dX9_fits_0 rfl (lv_at hl 0 rfl) ?_
  refine k_jim hP hD hS hA [0, 1] [false, false, true, true, true, true, true, true, true, true, true, true, true, true, true, true, true, true, true, true, true, true, true, true, true] rfl rfl (by decide +kernel) 0 0 (Nat.le_of_ble_eq_true rfl) (Nat.le_of_ble_eq_true rfl) (fun hPc hDc => k_runV (As := []) (rest := []) C0 hZ hS hA (s_X9_stands l dC dI cy sq a_this a_this_tape x_this_tapeSize a_this_plan x_this_plan_cycle x_this_plan_green x_this_plan_rule x_this_plan_least x_this_plan_away x_this_plan_statements x_this_plan_kinds a_this_plan_calm a_this_plan_pace a_this_plan_trusts x_this_plan_walkers a_this_plan_kindOf a_this_plan_comesAt a_this_plan_comers a_this_plan_names a_this_plan_code x_this_plan_size a_this_plan_spans a_this_spare a_this_now a_this_history a_this_machine a_this_reader a_this_street a_this_choice a_this_ahead a_this_watch a_this_octets x_this_octetCount a_this_refusals x_this_drawn (ib_w 0 120 hx_this_plan_cycle rfl)) mV_X9_218 hPc hDc rfl rfl rfl hl rfl rfl (Nat.le_of_ble_eq_true rfl) ⟨(Nat.le_of_ble_eq_true rfl), (Nat.le_of_ble_eq_true rfl)⟩ ⟨(Nat.le_of_ble_eq_true rfl), (Nat.le_of_ble_eq_true rfl)⟩ dX9_fits_1) (fun r1 u2 H locs hw hP hD hS => ?_)
  try dsimp only at hP hD hw
  replace hP : va_P (dC, dI) vwCl [(wo_8_rrriiriiiii a_this_watch a_this_street a_this_watch_seenWalker a_this_watch_seenSecond x_this_watch_rows x_this_watch_compared a_this_watch_seconds x_this_watch_found x_this_watch_foundRules x_this_watch_foundGreen x_this_watch_chosen x_this_watch_chosenLeft), (wo_7_rririiiirrrrriiii a_this_street a_this_machine a_this_plan x_this_street_day a_this_street_trusts x_this_street_rule x_this_street_green x_this_street_absent x_this_street_asksReds a_this_street_cars a_this_street_gaps a_this_street_known a_this_street_left a_this_street_leaves x_this_street_pressed x_this_street_crossed x_this_street_went x_this_street_harmed), (wi_0_720_0 a_this_watch_seconds cy g_this_watch_seconds), (wo_6_iiir a_this_now x_this_now_day x_this_now_rule x_this_now_green a_this_now_trusts), (wo_3_rr a_this_machine a_this_machine_facts a_this_machine_stack), (wi_0_13_0 a_this_machine_facts cy g_this_machine_facts), (wi_0_6_0 a_this_plan_spans cy g_this_plan_spans), (wi_0_1600_0 a_this_plan_code cy g_this_plan_code), (wi_0_64_0 a_this_machine_stack cy g_this_machine_stack), (wi_0_320_0 a_this_street_cars cy g_this_street_cars), (wi_0_320_0 a_this_street_gaps cy g_this_street_gaps), (wi_0_6_0 a_this_street_trusts cy g_this_street_trusts), (wi_0_6_0 a_this_now_trusts cy g_this_now_trusts), (wi_0_3600_0 a_this_street_known cy g_this_street_known), (wi_0_12_0 a_this_plan_kindOf cy g_this_plan_kindOf), (wi_0_200_0 a_this_plan_comers cy g_this_plan_comers), (wi_0_300_0 a_this_street_left cy g_this_street_left), (wi_0_12_0 a_this_street_leaves cy g_this_street_leaves), (wi_0_6_0 a_this_plan_pace cy g_this_plan_pace), (wi_0_12_0 a_this_plan_comesAt cy g_this_plan_comesAt), (wi_0_6_0 a_this_plan_calm cy g_this_plan_calm), (wi_0_16_0 a_this_watch_seenWalker cy g_this_watch_seenWalker), (wi_0_16_0 a_this_watch_seenSecond cy g_this_watch_seenSecond), (wo_9_rirrrrrrrrrrrirl a_this a_this_tape x_this_tapeSize a_this_plan a_this_spare a_this_now a_this_history a_this_machine a_this_reader a_this_street a_this_choice a_this_ahead a_this_watch a_this_octets x_this_octetCount a_this_refusals x_this_drawn), (wo_4_iiiiiiirrrirrrrrir a_this_plan x_this_plan_cycle x_this_plan_green x_this_plan_rule x_this_plan_least x_this_plan_away x_this_plan_statements x_this_plan_kinds a_this_plan_calm a_this_plan_pace a_this_plan_trusts x_this_plan_walkers a_this_plan_kindOf a_this_plan_comesAt a_this_plan_comers a_this_plan_names a_this_plan_code x_this_plan_size a_this_plan_spans)] H := hP
  replace hD := k_D hP hD
  obtain ⟨h3, h4, h5⟩ := hw
  replace hq := lf_b1 hq h5
  refine lv_if_ne (tgt := 9) hx hb dX9_fits_4 rfl (fun c6 => ?_) (fun c6 => ?_)
  · as_aux_lemma =>
      replace hq := lf_neg hq (lf_ne (lf_rf r1) (lf_lc 0 (0 : Int) rfl) c6)
      have h7 : ib r1 1 1 := ib_w 1 1 (ib_ne_lo 0 h3 rfl c6) rfl
      have h8 : ib x_this_plan_cycle 1 120 := ib_w 1 120 (ib_two hx_this_plan_cycle (h4 c6)) rfl
      refine lv_aload_n hx hb dX9_fits_9 rfl (lv_at hl 0 rfl) ?_
      refine k_get C0 fg_X9_85 hP 23 rfl rfl dX9_fits_10 ?_
      refine lv_aload_n hx hb dX9_fits_13 rfl (lv_at hl 0 rfl) ?_
      refine k_get C0 fg_X9_30 hP 23 rfl rfl dX9_fits_14 ?_
      refine k_jvm hP hD hS hA [0, 1, 24, 2, 3, 4, 5, 6, 7, 8, 9, 10, 11, 12, 13, 14, 15, 16, 17, 18, 19, 20, 21, 22] [false, false, false, false, false, false, false, false, false, false, false, false, false, false, false, false, false, false, false, false, false, false, false, true] rfl rfl (by decide +kernel) 0 0 (Nat.le_of_ble_eq_true rfl) (Nat.le_of_ble_eq_true rfl) (fun hPc hDc => k_runV (As := [.ref a_this_now]) (rest := []) C0 hZ hS hA (s_X8_compare l dC dI cy sq a_this_watch a_this_street a_this_machine a_this_machine_facts g_this_machine_facts a_this_machine_stack g_this_machine_stack a_this_plan x_this_plan_cycle x_this_plan_green x_this_plan_rule x_this_plan_least x_this_plan_away x_this_plan_statements x_this_plan_kinds a_this_plan_calm g_this_plan_calm a_this_plan_pace g_this_plan_pace a_this_plan_trusts x_this_plan_walkers a_this_plan_kindOf g_this_plan_kindOf a_this_plan_comesAt g_this_plan_comesAt a_this_plan_comers g_this_plan_comers a_this_plan_names a_this_plan_code g_this_plan_code x_this_plan_size a_this_plan_spans g_this_plan_spans x_this_street_day a_this_street_trusts g_this_street_trusts x_this_street_rule x_this_street_green x_this_street_absent x_this_street_asksReds a_this_street_cars g_this_street_cars a_this_street_gaps g_this_street_gaps a_this_street_known g_this_street_known a_this_street_left g_this_street_left a_this_street_leaves g_this_street_leaves x_this_street_pressed x_this_street_crossed x_this_street_went x_this_street_harmed a_this_watch_seenWalker g_this_watch_seenWalker a_this_watch_seenSecond g_this_watch_seenSecond x_this_watch_rows x_this_watch_compared a_this_watch_seconds g_this_watch_seconds x_this_watch_found x_this_watch_foundRules x_this_watch_foundGreen x_this_watch_chosen x_this_watch_chosenLeft a_this_now x_this_now_day x_this_now_rule x_this_now_green a_this_now_trusts g_this_now_trusts (ib_w 0 120 h8 rfl) (ib_w 0 99 hx_this_plan_least rfl) (ib_w 0 6 hx_this_plan_kinds rfl) (ib_w 0 12 hx_this_plan_walkers rfl) hg_this_plan_kindOf hg_this_plan_comesAt hg_this_plan_spans (ib_w 0 1 hx_this_street_asksReds rfl) hg_this_watch_seenWalker (ib_w 0 16 hx_this_watch_rows rfl) (ib_w 0 1 hx_this_watch_compared rfl) (ib_w 0 60 hx_this_watch_found rfl)) mV_X9_262 hPc hDc rfl rfl rfl hl rfl rfl (Nat.le_of_ble_eq_true rfl) ⟨(Nat.le_of_ble_eq_true rfl), (Nat.le_of_ble_eq_true rfl)⟩ ⟨(Nat.le_of_ble_eq_true rfl), (Nat.le_of_ble_eq_true rfl)⟩ dX9_fits_17) (fun u10 H locs hw hP hD hS => ?_)
      obtain ⟨v11, v12, v13, v14, v15, v16, v17, v18, v19, v20, v21, v22, v23, v24, f25, f26, f27, f28, f29, f30, f31, f32, f33⟩ := u10
      try dsimp only at hP hD hw
      replace hP : va_P (dC, dI) vwCl [(wo_9_rirrrrrrrrrrrirl a_this a_this_tape x_this_tapeSize a_this_plan a_this_spare a_this_now a_this_history a_this_machine a_this_reader a_this_street a_this_choice a_this_ahead a_this_watch a_this_octets x_this_octetCount a_this_refusals x_this_drawn), (wo_8_rrriiriiiii a_this_watch a_this_street a_this_watch_seenWalker a_this_watch_seenSecond x_this_watch_rows v11 a_this_watch_seconds v12 v13 v14 v15 v16), (wo_7_rririiiirrrrriiii a_this_street a_this_machine a_this_plan v17 a_this_street_trusts v18 v19 v20 x_this_street_asksReds a_this_street_cars a_this_street_gaps a_this_street_known a_this_street_left a_this_street_leaves v21 v22 v23 v24), (wo_4_iiiiiiirrrirrrrrir a_this_plan x_this_plan_cycle x_this_plan_green x_this_plan_rule x_this_plan_least x_this_plan_away x_this_plan_statements x_this_plan_kinds a_this_plan_calm a_this_plan_pace a_this_plan_trusts x_this_plan_walkers a_this_plan_kindOf a_this_plan_comesAt a_this_plan_comers a_this_plan_names a_this_plan_code x_this_plan_size a_this_plan_spans), (wi_0_720_0 a_this_watch_seconds cy f25), (wo_6_iiir a_this_now x_this_now_day x_this_now_rule x_this_now_green a_this_now_trusts), (wo_3_rr a_this_machine a_this_machine_facts a_this_machine_stack), (wi_0_13_0 a_this_machine_facts cy f26), (wi_0_6_0 a_this_plan_spans cy g_this_plan_spans), (wi_0_1600_0 a_this_plan_code cy g_this_plan_code), (wi_0_64_0 a_this_machine_stack cy f27), (wi_0_320_0 a_this_street_cars cy f28), (wi_0_320_0 a_this_street_gaps cy f29), (wi_0_6_0 a_this_street_trusts cy f30), (wi_0_6_0 a_this_now_trusts cy g_this_now_trusts), (wi_0_3600_0 a_this_street_known cy f31), (wi_0_12_0 a_this_plan_kindOf cy g_this_plan_kindOf), (wi_0_200_0 a_this_plan_comers cy g_this_plan_comers), (wi_0_300_0 a_this_street_left cy f32), (wi_0_12_0 a_this_street_leaves cy f33), (wi_0_6_0 a_this_plan_pace cy g_this_plan_pace), (wi_0_12_0 a_this_plan_comesAt cy g_this_plan_comesAt), (wi_0_6_0 a_this_plan_calm cy g_this_plan_calm), (wi_0_16_0 a_this_watch_seenWalker cy g_this_watch_seenWalker), (wi_0_16_0 a_this_watch_seenSecond cy g_this_watch_seenSecond)] H := hP
      replace hD := k_D hP hD
      obtain ⟨h34, h35, h36⟩ := hw
      replace hq := lf_p1 hq h36
      replace hq := lf_p1 hq rfl
      replace hq := lf_p1 hq rfl
      replace hq := lf_p1 hq rfl
      replace hq := lf_p1 hq rfl
      replace hq := lf_p1 hq rfl
      replace hq := lf_p1 hq rfl
      replace hq := lf_p1 hq rfl
      replace hq := lf_p1 hq rfl
      replace hq := lf_p1 hq rfl
      replace hq := lf_p1 hq rfl
      replace hq := lf_p1 hq rfl
      replace hq := lf_p1 hq rfl
      replace hq := lf_p1 hq rfl
      replace hq := lf_p1 hq rfl
      replace hq := lf_p1 hq rfl
      replace hq := lf_p1 hq rfl
      as_aux_lemma =>
        replace hq := lf_p1 hq rfl
        replace hq := lf_p1 hq rfl
        replace hq := lf_p1 hq rfl
        replace hq := lf_p1 hq rfl
        replace hq := lf_p1 hq rfl
        refine lv_iload_n hx hb dX9_fits_20 rfl (lv_at hl 1 rfl) ?_
        rcases Decidable.em (p0 = 0) with s37_0 | s37_0
        · skip
          replace hq := lf_pos hq (lf_eq (lf_rf p0) (lf_lc 0 (0 : Int) rfl) s37_0)
          have h38 : ib p0 0 0 := by rw [s37_0]; exact ib_c 0 0 0 rfl
          refine lv_tableIn (off := 27) (tgt := 48) hx hb dX9_fits_21 (by rw [s37_0]; decide) (by rw [s37_0]; decide) (by rw [s37_0]; decide) (by decide) ?_
          refine lv_aload_n hx hb dX9_fits_48 rfl (lv_at hl 0 rfl) ?_
          refine k_get C0 fg_X9_85 hP 0 rfl rfl dX9_fits_49 ?_
          refine k_get C0 fg_X9_266 hP 1 rfl rfl dX9_fits_52 ?_
          subst hQ; exact k_iret hx hb hr hlk rfl ((v11, v12, v13, v14, v15, v16, v17, v18, v19, v20, v21, v22, v23, v24, f25, f26, f27, f28, f29, f30, f31, f32, f33)) hS ⟨ib_w 0 1 h34 rfl, ib_w 0 60 h35 rfl, (hO.symm.trans (by exact hq))⟩ (hP.sub [0, 3, 1, 2, 4, 5, 6, 7, 8, 9, 10, 11, 12, 13, 14, 15, 16, 17, 18, 19, 20, 21, 22, 23, 24] rfl) (hD.sub [0, 3, 1, 2, 4, 5, 6, 7, 8, 9, 10, 11, 12, 13, 14, 15, 16, 17, 18, 19, 20, 21, 22, 23, 24] (by decide +kernel) rfl) (Nat.le_of_ble_eq_true rfl) (Nat.le_of_ble_eq_true rfl) dX9_fits_55
        replace hq := lf_neg hq (lf_ne (lf_rf p0) (lf_lc 0 (0 : Int) rfl) s37_0)
        rcases Decidable.em (p0 = 1) with s37_1 | s37_1
        · skip
          replace hq := lf_pos hq (lf_eq (lf_rf p0) (lf_lc 1 (1 : Int) rfl) s37_1)
          have h39 : ib p0 1 1 := by rw [s37_1]; exact ib_c 1 1 1 rfl
          refine lv_tableIn (off := 35) (tgt := 56) hx hb dX9_fits_21 (by rw [s37_1]; decide) (by rw [s37_1]; decide) (by rw [s37_1]; decide) (by decide) ?_
          refine lv_aload_n hx hb dX9_fits_56 rfl (lv_at hl 0 rfl) ?_
          refine k_get C0 fg_X9_85 hP 0 rfl rfl dX9_fits_57 ?_
          refine k_get C0 fg_X9_269 hP 1 rfl rfl dX9_fits_60 ?_
          subst hQ; exact k_iret hx hb hr hlk rfl ((v11, v12, v13, v14, v15, v16, v17, v18, v19, v20, v21, v22, v23, v24, f25, f26, f27, f28, f29, f30, f31, f32, f33)) hS ⟨ib_w 0 1 h34 rfl, ib_w 0 60 h35 rfl, (hO.symm.trans (by exact hq))⟩ (hP.sub [0, 3, 1, 2, 4, 5, 6, 7, 8, 9, 10, 11, 12, 13, 14, 15, 16, 17, 18, 19, 20, 21, 22, 23, 24] rfl) (hD.sub [0, 3, 1, 2, 4, 5, 6, 7, 8, 9, 10, 11, 12, 13, 14, 15, 16, 17, 18, 19, 20, 21, 22, 23, 24] (by decide +kernel) rfl) (Nat.le_of_ble_eq_true rfl) (Nat.le_of_ble_eq_true rfl) dX9_fits_63
        replace hq := lf_neg hq (lf_ne (lf_rf p0) (lf_lc 1 (1 : Int) rfl) s37_1)
        rcases Decidable.em (p0 = 2) with s37_2 | s37_2
        · skip
          replace hq := lf_pos hq (lf_eq (lf_rf p0) (lf_lc 2 (2 : Int) rfl) s37_2)
          have h40 : ib p0 2 2 := by rw [s37_2]; exact ib_c 2 2 2 rfl
          refine lv_tableIn (off := 43) (tgt := 64) hx hb dX9_fits_21 (by rw [s37_2]; decide) (by rw [s37_2]; decide) (by rw [s37_2]; decide) (by decide) ?_
          refine lv_aload_n hx hb dX9_fits_64 rfl (lv_at hl 0 rfl) ?_
          refine k_get C0 fg_X9_85 hP 0 rfl rfl dX9_fits_65 ?_
          refine k_get C0 fg_X9_272 hP 1 rfl rfl dX9_fits_68 ?_
          subst hQ; exact k_iret hx hb hr hlk rfl ((v11, v12, v13, v14, v15, v16, v17, v18, v19, v20, v21, v22, v23, v24, f25, f26, f27, f28, f29, f30, f31, f32, f33)) hS ⟨ib_w 0 1 h34 rfl, ib_w 0 60 h35 rfl, (hO.symm.trans (by exact hq))⟩ (hP.sub [0, 3, 1, 2, 4, 5, 6, 7, 8, 9, 10, 11, 12, 13, 14, 15, 16, 17, 18, 19, 20, 21, 22, 23, 24] rfl) (hD.sub [0, 3, 1, 2, 4, 5, 6, 7, 8, 9, 10, 11, 12, 13, 14, 15, 16, 17, 18, 19, 20, 21, 22, 23, 24] (by decide +kernel) rfl) (Nat.le_of_ble_eq_true rfl) (Nat.le_of_ble_eq_true rfl) dX9_fits_71
        replace hq := lf_neg hq (lf_ne (lf_rf p0) (lf_lc 2 (2 : Int) rfl) s37_2)
        refine lv_tableOut (tgt := 72) hx hb dX9_fits_21 (by have q0 := ib_nei 0 0 rfl s37_0; have q1 := ib_nei 1 1 rfl s37_1; have q2 := ib_nei 2 2 rfl s37_2; omega) (by decide) ?_
        refine lv_iconst (v := (-1)) hx hb dX9_fits_72 rfl ?_
        subst hQ; exact k_iret hx hb hr hlk rfl ((v11, v12, v13, v14, v15, v16, v17, v18, v19, v20, v21, v22, v23, v24, f25, f26, f27, f28, f29, f30, f31, f32, f33)) hS ⟨ib_w 0 1 h34 rfl, ib_w 0 60 h35 rfl, (hO.symm.trans (by try simp only [show ((-1) : Int32).toInt = (-1 : Int) from rfl]; exact hq))⟩ (hP.sub [0, 3, 1, 2, 4, 5, 6, 7, 8, 9, 10, 11, 12, 13, 14, 15, 16, 17, 18, 19, 20, 21, 22, 23, 24] rfl) (hD.sub [0, 3, 1, 2, 4, 5, 6, 7, 8, 9, 10, 11, 12, 13, 14, 15, 16, 17, 18, 19, 20, 21, 22, 23, 24] (by decide +kernel) rfl) (Nat.le_of_ble_eq_true rfl) (Nat.le_of_ble_eq_true rfl) dX9_fits_73
  · replace hq := lf_pos hq (lf_eq (lf_rf r1) (lf_lc 0 (0 : Int) rfl) c6)
    have h41 := ib_eq h3 (ib_c 0 0 0 rfl) c6
    have h42 : ib r1 0 0 := ib_w 0 0 h41.1 rfl
    refine lv_iconst (v := (-1)) hx hb dX9_fits_7 rfl ?_
    subst hQ; exact k_iret hx hb hr hlk rfl ((x_this_watch_compared, x_this_watch_found, x_this_watch_foundRules, x_this_watch_foundGreen, x_this_watch_chosen, x_this_watch_chosenLeft, x_this_street_day, x_this_street_rule, x_this_street_green, x_this_street_absent, x_this_street_pressed, x_this_street_crossed, x_this_street_went, x_this_street_harmed, g_this_watch_seconds, g_this_machine_facts, g_this_machine_stack, g_this_street_cars, g_this_street_gaps, g_this_street_trusts, g_this_street_known, g_this_street_left, g_this_street_leaves)) hS ⟨ib_w 0 1 hx_this_watch_compared rfl, ib_w 0 60 hx_this_watch_found rfl, (hO.symm.trans (by try simp only [show ((-1) : Int32).toInt = (-1 : Int) from rfl]; exact hq))⟩ (hP.sub [23, 24, 0, 1, 2, 3, 4, 5, 6, 7, 8, 9, 10, 11, 12, 13, 14, 15, 16, 17, 18, 19, 20, 21, 22] rfl) (hD.sub [23, 24, 0, 1, 2, 3, 4, 5, 6, 7, 8, 9, 10, 11, 12, 13, 14, 15, 16, 17, 18, 19, 20, 21, 22] (by decide +kernel) rfl) (Nat.le_of_ble_eq_true rfl) (Nat.le_of_ble_eq_true rfl) dX9_fits_8
set_option maxHeartbeats 4000000 in
set_option maxRecDepth 100000 in
theorem s_X9_green (l : Launch) (dC : Nat → ClassId) (dI : Nat → Nat → Nat) (cy : Nat → ClassId) (sq : Nat → Nat) (a_this : Nat) (a_this_tape : Nat) (x_this_tapeSize : Int32) (a_this_plan : Nat) (x_this_plan_cycle : Int32) (x_this_plan_green : Int32) (x_this_plan_rule : Int32) (x_this_plan_least : Int32) (x_this_plan_away : Int32) (x_this_plan_statements : Int32) (x_this_plan_kinds : Int32) (a_this_plan_calm : Nat) (a_this_plan_pace : Nat) (a_this_plan_trusts : Nat) (x_this_plan_walkers : Int32) (a_this_plan_kindOf : Nat) (a_this_plan_comesAt : Nat) (a_this_plan_comers : Nat) (a_this_plan_names : Nat) (a_this_plan_code : Nat) (x_this_plan_size : Int32) (a_this_plan_spans : Nat) (a_this_spare : Nat) (a_this_now : Nat) (x_this_now_day : Int32) (x_this_now_rule : Int32) (x_this_now_green : Int32) (a_this_now_trusts : Nat) (g_this_now_trusts : Nat → Int32) (a_this_history : Nat) (a_this_history_ring : Nat) (rq_this_history_ring : Nat → Nat) (rr_this_history_ring : Nat → Nat) (rD_this_history_ring : Nat → Int32) (rR_this_history_ring : Nat → Int32) (rG_this_history_ring : Nat → Int32) (rF_this_history_ring : Nat → Nat → Int32) (x_this_history_next : Int32) (x_this_history_count : Int32) (a_this_machine : Nat) (a_this_reader : Nat) (a_this_street : Nat) (a_this_choice : Nat) (a_this_choice_table : Nat) (x_this_choice_tableKnown : Int32) (a_this_ahead : Nat) (a_this_ahead_state : Nat) (a_this_ahead_told : Nat) (a_this_ahead_trusts : Nat) (x_this_ahead_known : Int32) (a_this_watch : Nat) (a_this_watch_seenWalker : Nat) (a_this_watch_seenSecond : Nat) (x_this_watch_rows : Int32) (x_this_watch_compared : Int32) (a_this_watch_seconds : Nat) (x_this_watch_found : Int32) (x_this_watch_foundRules : Int32) (x_this_watch_foundGreen : Int32) (x_this_watch_chosen : Int32) (x_this_watch_chosenLeft : Int32) (a_this_octets : Nat) (x_this_octetCount : Int32) (a_this_refusals : Nat) (g_this_refusals : Nat → Int32) (x_this_drawn : Int64) (p0 : Int32) (hx_this_plan_cycle : ib x_this_plan_cycle 0 120) (hx_this_history_next : ib x_this_history_next 0 19) (hx_this_history_count : ib x_this_history_count 0 20) (hx_this_choice_tableKnown : ib x_this_choice_tableKnown 0 1) (hx_this_ahead_known : ib x_this_ahead_known 0 30) (hx_this_watch_compared : ib x_this_watch_compared 0 1) : k_Met l yX9_green cX9_green 2 (some .boolean) { frames := 4, cells := 0, slots := 0, locals := 126 } dC dI cy sq [.ref a_this, .int p0] [(wo_9_rirrrrrrrrrrrirl a_this a_this_tape x_this_tapeSize a_this_plan a_this_spare a_this_now a_this_history a_this_machine a_this_reader a_this_street a_this_choice a_this_ahead a_this_watch a_this_octets x_this_octetCount a_this_refusals x_this_drawn), (wo_4_iiiiiiirrrirrrrrir a_this_plan x_this_plan_cycle x_this_plan_green x_this_plan_rule x_this_plan_least x_this_plan_away x_this_plan_statements x_this_plan_kinds a_this_plan_calm a_this_plan_pace a_this_plan_trusts x_this_plan_walkers a_this_plan_kindOf a_this_plan_comesAt a_this_plan_comers a_this_plan_names a_this_plan_code x_this_plan_size a_this_plan_spans), (wo_6_iiir a_this_now x_this_now_day x_this_now_rule x_this_now_green a_this_now_trusts), (wo_2_rii a_this_history a_this_history_ring x_this_history_next x_this_history_count), (a_this_history_ring, .inl (cy 4, 20, .inr (.inr (.inr (.inr (rg_f rq_this_history_ring)))))), (wo_6_iiir (rq_this_history_ring 0) (rD_this_history_ring 0) (rR_this_history_ring 0) (rG_this_history_ring 0) (rr_this_history_ring 0)), (wi_0_6_0 a_this_now_trusts cy g_this_now_trusts), (wi_0_6_0 (rr_this_history_ring 0) cy (rF_this_history_ring 0)), (wo_6_iiir (rq_this_history_ring 1) (rD_this_history_ring 1) (rR_this_history_ring 1) (rG_this_history_ring 1) (rr_this_history_ring 1)), (wi_0_6_0 (rr_this_history_ring 1) cy (rF_this_history_ring 1)), (wo_6_iiir (rq_this_history_ring 2) (rD_this_history_ring 2) (rR_this_history_ring 2) (rG_this_history_ring 2) (rr_this_history_ring 2)), (wi_0_6_0 (rr_this_history_ring 2) cy (rF_this_history_ring 2)), (wo_6_iiir (rq_this_history_ring 3) (rD_this_history_ring 3) (rR_this_history_ring 3) (rG_this_history_ring 3) (rr_this_history_ring 3)), (wi_0_6_0 (rr_this_history_ring 3) cy (rF_this_history_ring 3)), (wo_6_iiir (rq_this_history_ring 4) (rD_this_history_ring 4) (rR_this_history_ring 4) (rG_this_history_ring 4) (rr_this_history_ring 4)), (wi_0_6_0 (rr_this_history_ring 4) cy (rF_this_history_ring 4)), (wo_6_iiir (rq_this_history_ring 5) (rD_this_history_ring 5) (rR_this_history_ring 5) (rG_this_history_ring 5) (rr_this_history_ring 5)), (wi_0_6_0 (rr_this_history_ring 5) cy (rF_this_history_ring 5)), (wo_6_iiir (rq_this_history_ring 6) (rD_this_history_ring 6) (rR_this_history_ring 6) (rG_this_history_ring 6) (rr_this_history_ring 6)), (wi_0_6_0 (rr_this_history_ring 6) cy (rF_this_history_ring 6)), (wo_6_iiir (rq_this_history_ring 7) (rD_this_history_ring 7) (rR_this_history_ring 7) (rG_this_history_ring 7) (rr_this_history_ring 7)), (wi_0_6_0 (rr_this_history_ring 7) cy (rF_this_history_ring 7)), (wo_6_iiir (rq_this_history_ring 8) (rD_this_history_ring 8) (rR_this_history_ring 8) (rG_this_history_ring 8) (rr_this_history_ring 8)), (wi_0_6_0 (rr_this_history_ring 8) cy (rF_this_history_ring 8)), (wo_6_iiir (rq_this_history_ring 9) (rD_this_history_ring 9) (rR_this_history_ring 9) (rG_this_history_ring 9) (rr_this_history_ring 9)), (wi_0_6_0 (rr_this_history_ring 9) cy (rF_this_history_ring 9)), (wo_6_iiir (rq_this_history_ring 10) (rD_this_history_ring 10) (rR_this_history_ring 10) (rG_this_history_ring 10) (rr_this_history_ring 10)), (wi_0_6_0 (rr_this_history_ring 10) cy (rF_this_history_ring 10)), (wo_6_iiir (rq_this_history_ring 11) (rD_this_history_ring 11) (rR_this_history_ring 11) (rG_this_history_ring 11) (rr_this_history_ring 11)), (wi_0_6_0 (rr_this_history_ring 11) cy (rF_this_history_ring 11)), (wo_6_iiir (rq_this_history_ring 12) (rD_this_history_ring 12) (rR_this_history_ring 12) (rG_this_history_ring 12) (rr_this_history_ring 12)), (wi_0_6_0 (rr_this_history_ring 12) cy (rF_this_history_ring 12)), (wo_6_iiir (rq_this_history_ring 13) (rD_this_history_ring 13) (rR_this_history_ring 13) (rG_this_history_ring 13) (rr_this_history_ring 13)), (wi_0_6_0 (rr_this_history_ring 13) cy (rF_this_history_ring 13)), (wo_6_iiir (rq_this_history_ring 14) (rD_this_history_ring 14) (rR_this_history_ring 14) (rG_this_history_ring 14) (rr_this_history_ring 14)), (wi_0_6_0 (rr_this_history_ring 14) cy (rF_this_history_ring 14)), (wo_6_iiir (rq_this_history_ring 15) (rD_this_history_ring 15) (rR_this_history_ring 15) (rG_this_history_ring 15) (rr_this_history_ring 15)), (wi_0_6_0 (rr_this_history_ring 15) cy (rF_this_history_ring 15)), (wo_6_iiir (rq_this_history_ring 16) (rD_this_history_ring 16) (rR_this_history_ring 16) (rG_this_history_ring 16) (rr_this_history_ring 16)), (wi_0_6_0 (rr_this_history_ring 16) cy (rF_this_history_ring 16)), (wo_6_iiir (rq_this_history_ring 17) (rD_this_history_ring 17) (rR_this_history_ring 17) (rG_this_history_ring 17) (rr_this_history_ring 17)), (wi_0_6_0 (rr_this_history_ring 17) cy (rF_this_history_ring 17)), (wo_6_iiir (rq_this_history_ring 18) (rD_this_history_ring 18) (rR_this_history_ring 18) (rG_this_history_ring 18) (rr_this_history_ring 18)), (wi_0_6_0 (rr_this_history_ring 18) cy (rF_this_history_ring 18)), (wo_6_iiir (rq_this_history_ring 19) (rD_this_history_ring 19) (rR_this_history_ring 19) (rG_this_history_ring 19) (rr_this_history_ring 19)), (wi_0_6_0 (rr_this_history_ring 19) cy (rF_this_history_ring 19)), (wo_1_rri a_this_choice a_this_street a_this_choice_table x_this_choice_tableKnown), (wo_0_rrrri a_this_ahead a_this_street a_this_ahead_state a_this_ahead_told a_this_ahead_trusts x_this_ahead_known), (wo_8_rrriiriiiii a_this_watch a_this_street a_this_watch_seenWalker a_this_watch_seenSecond x_this_watch_rows x_this_watch_compared a_this_watch_seconds x_this_watch_found x_this_watch_foundRules x_this_watch_foundGreen x_this_watch_chosen x_this_watch_chosenLeft), (wi_0_6_0 a_this_refusals cy g_this_refusals)] (k_Qi dC dI (fun (r : Int32) (u : Int32 × Int32 × Int32 × Int32 × Int32 × Int32 × (Nat → Int32) × (Nat → Int32) × (Nat → Int32) × (Nat → Int32) × (Nat → Nat → Int32)) => match u with | (n0, n1, n2, n3, n4, n5, n6, n7, n8, n9, n10) => ib r 0 1 ∧ ib n1 0 19 ∧ ib n2 0 20 ∧ ib n3 0 1 ∧ ib n4 0 30 ∧ ib n5 0 1 ∧ (¬ r = 0 → ib x_this_plan_cycle 2 120) ∧ (¬ r = 0 → ib p0 1 60) ∧ (F_X9_green (Int32.toInt x_this_plan_cycle) (Int32.toInt x_this_now_day) (Int32.toInt x_this_now_rule) (Int32.toInt x_this_now_green) (lf_A g_this_now_trusts) (lf_A rD_this_history_ring) (lf_A rR_this_history_ring) (lf_A rG_this_history_ring) (lf_R rF_this_history_ring) (Int32.toInt x_this_history_next) (Int32.toInt x_this_history_count) (Int32.toInt x_this_choice_tableKnown) (Int32.toInt x_this_ahead_known) (Int32.toInt x_this_watch_compared) (lf_A g_this_refusals) (Int32.toInt p0) = ((Int32.toInt r), (Int32.toInt n0), (Int32.toInt n1), (Int32.toInt n2), (Int32.toInt n3), (Int32.toInt n4), (Int32.toInt n5), (lf_A n6), (lf_A n7), (lf_A n8), (lf_A n9), (lf_R n10)))) (fun u : Int32 × Int32 × Int32 × Int32 × Int32 × Int32 × (Nat → Int32) × (Nat → Int32) × (Nat → Int32) × (Nat → Int32) × (Nat → Nat → Int32) => match u with | (n0, n1, n2, n3, n4, n5, n6, n7, n8, n9, n10) => [(wo_9_rirrrrrrrrrrrirl a_this a_this_tape x_this_tapeSize a_this_plan a_this_spare a_this_now a_this_history a_this_machine a_this_reader a_this_street a_this_choice a_this_ahead a_this_watch a_this_octets x_this_octetCount a_this_refusals x_this_drawn), (wo_4_iiiiiiirrrirrrrrir a_this_plan x_this_plan_cycle x_this_plan_green x_this_plan_rule x_this_plan_least x_this_plan_away x_this_plan_statements x_this_plan_kinds a_this_plan_calm a_this_plan_pace a_this_plan_trusts x_this_plan_walkers a_this_plan_kindOf a_this_plan_comesAt a_this_plan_comers a_this_plan_names a_this_plan_code x_this_plan_size a_this_plan_spans), (wo_6_iiir a_this_now x_this_now_day x_this_now_rule n0 a_this_now_trusts), (wo_2_rii a_this_history a_this_history_ring n1 n2), (a_this_history_ring, .inl (cy 4, 20, .inr (.inr (.inr (.inr (rg_f rq_this_history_ring)))))), (wo_6_iiir (rq_this_history_ring 0) (n7 0) (n8 0) (n9 0) (rr_this_history_ring 0)), (wi_0_6_0 a_this_now_trusts cy g_this_now_trusts), (wi_0_6_0 (rr_this_history_ring 0) cy (n10 0)), (wo_6_iiir (rq_this_history_ring 1) (n7 1) (n8 1) (n9 1) (rr_this_history_ring 1)), (wi_0_6_0 (rr_this_history_ring 1) cy (n10 1)), (wo_6_iiir (rq_this_history_ring 2) (n7 2) (n8 2) (n9 2) (rr_this_history_ring 2)), (wi_0_6_0 (rr_this_history_ring 2) cy (n10 2)), (wo_6_iiir (rq_this_history_ring 3) (n7 3) (n8 3) (n9 3) (rr_this_history_ring 3)), (wi_0_6_0 (rr_this_history_ring 3) cy (n10 3)), (wo_6_iiir (rq_this_history_ring 4) (n7 4) (n8 4) (n9 4) (rr_this_history_ring 4)), (wi_0_6_0 (rr_this_history_ring 4) cy (n10 4)), (wo_6_iiir (rq_this_history_ring 5) (n7 5) (n8 5) (n9 5) (rr_this_history_ring 5)), (wi_0_6_0 (rr_this_history_ring 5) cy (n10 5)), (wo_6_iiir (rq_this_history_ring 6) (n7 6) (n8 6) (n9 6) (rr_this_history_ring 6)), (wi_0_6_0 (rr_this_history_ring 6) cy (n10 6)), (wo_6_iiir (rq_this_history_ring 7) (n7 7) (n8 7) (n9 7) (rr_this_history_ring 7)), (wi_0_6_0 (rr_this_history_ring 7) cy (n10 7)), (wo_6_iiir (rq_this_history_ring 8) (n7 8) (n8 8) (n9 8) (rr_this_history_ring 8)), (wi_0_6_0 (rr_this_history_ring 8) cy (n10 8)), (wo_6_iiir (rq_this_history_ring 9) (n7 9) (n8 9) (n9 9) (rr_this_history_ring 9)), (wi_0_6_0 (rr_this_history_ring 9) cy (n10 9)), (wo_6_iiir (rq_this_history_ring 10) (n7 10) (n8 10) (n9 10) (rr_this_history_ring 10)), (wi_0_6_0 (rr_this_history_ring 10) cy (n10 10)), (wo_6_iiir (rq_this_history_ring 11) (n7 11) (n8 11) (n9 11) (rr_this_history_ring 11)), (wi_0_6_0 (rr_this_history_ring 11) cy (n10 11)), (wo_6_iiir (rq_this_history_ring 12) (n7 12) (n8 12) (n9 12) (rr_this_history_ring 12)), (wi_0_6_0 (rr_this_history_ring 12) cy (n10 12)), (wo_6_iiir (rq_this_history_ring 13) (n7 13) (n8 13) (n9 13) (rr_this_history_ring 13)), (wi_0_6_0 (rr_this_history_ring 13) cy (n10 13)), (wo_6_iiir (rq_this_history_ring 14) (n7 14) (n8 14) (n9 14) (rr_this_history_ring 14)), (wi_0_6_0 (rr_this_history_ring 14) cy (n10 14)), (wo_6_iiir (rq_this_history_ring 15) (n7 15) (n8 15) (n9 15) (rr_this_history_ring 15)), (wi_0_6_0 (rr_this_history_ring 15) cy (n10 15)), (wo_6_iiir (rq_this_history_ring 16) (n7 16) (n8 16) (n9 16) (rr_this_history_ring 16)), (wi_0_6_0 (rr_this_history_ring 16) cy (n10 16)), (wo_6_iiir (rq_this_history_ring 17) (n7 17) (n8 17) (n9 17) (rr_this_history_ring 17)), (wi_0_6_0 (rr_this_history_ring 17) cy (n10 17)), (wo_6_iiir (rq_this_history_ring 18) (n7 18) (n8 18) (n9 18) (rr_this_history_ring 18)), (wi_0_6_0 (rr_this_history_ring 18) cy (n10 18)), (wo_6_iiir (rq_this_history_ring 19) (n7 19) (n8 19) (n9 19) (rr_this_history_ring 19)), (wi_0_6_0 (rr_this_history_ring 19) cy (n10 19)), (wo_1_rri a_this_choice a_this_street a_this_choice_table n3), (wo_0_rrrri a_this_ahead a_this_street a_this_ahead_state a_this_ahead_told a_this_ahead_trusts n4), (wo_8_rrriiriiiii a_this_watch a_this_street a_this_watch_seenWalker a_this_watch_seenSecond x_this_watch_rows n5 a_this_watch_seconds x_this_watch_found x_this_watch_foundRules x_this_watch_foundGreen x_this_watch_chosen x_this_watch_chosenLeft), (wi_0_6_0 a_this_refusals cy n6)])) := by
  refine k_ofW2 (by decide +kernel) (Nat.le_of_ble_eq_true rfl) ?_
  intro p e s m below meth c A ls H locs args Q hQ C0 hZ hr hlk hin hP hD hA hS hl
  have C0 : k_cx p s m args c cX9_green 2 RX9 dC dI cy sq := C0
  have hx := C0.1
  have hb := C0.2.1
  have hl : lv_has ls 2 [(0, .ref a_this), (1, .int p0)] := hl
  obtain ⟨O, hO⟩ : ∃ o, o = F_X9_green (Int32.toInt x_this_plan_cycle) (Int32.toInt x_this_now_day) (Int32.toInt x_this_now_rule) (Int32.toInt x_this_now_green) (lf_A g_this_now_trusts) (lf_A rD_this_history_ring) (lf_A rR_this_history_ring) (lf_A rG_this_history_ring) (lf_R rF_this_history_ring) (Int32.toInt x_this_history_next) (Int32.toInt x_this_history_count) (Int32.toInt x_this_choice_tableKnown) (Int32.toInt x_this_ahead_known) (Int32.toInt x_this_watch_compared) (lf_A g_this_refusals) (Int32.toInt p0) := ⟨_, rfl⟩
  have hq := hO
  unfold F_X9_green at hq
  have jn22 : ∀  (H : Heap) (locs : List Loc) (ls : Array Slot), (O = F_X9_green_22 (Int32.toInt x_this_now_green) (lf_A rD_this_history_ring) (lf_A rR_this_history_ring) (lf_A rG_this_history_ring) (lf_R rF_this_history_ring) (Int32.toInt x_this_history_next) (Int32.toInt x_this_history_count) (Int32.toInt x_this_choice_tableKnown) (Int32.toInt x_this_ahead_known) (Int32.toInt x_this_watch_compared) (lf_A g_this_refusals) ) → va_P (dC, dI) vwCl [(wo_9_rirrrrrrrrrrrirl a_this a_this_tape x_this_tapeSize a_this_plan a_this_spare a_this_now a_this_history a_this_machine a_this_reader a_this_street a_this_choice a_this_ahead a_this_watch a_this_octets x_this_octetCount a_this_refusals x_this_drawn), (wo_4_iiiiiiirrrirrrrrir a_this_plan x_this_plan_cycle x_this_plan_green x_this_plan_rule x_this_plan_least x_this_plan_away x_this_plan_statements x_this_plan_kinds a_this_plan_calm a_this_plan_pace a_this_plan_trusts x_this_plan_walkers a_this_plan_kindOf a_this_plan_comesAt a_this_plan_comers a_this_plan_names a_this_plan_code x_this_plan_size a_this_plan_spans), (wo_6_iiir a_this_now x_this_now_day x_this_now_rule x_this_now_green a_this_now_trusts), (wo_2_rii a_this_history a_this_history_ring x_this_history_next x_this_history_count), (a_this_history_ring, .inl (cy 4, 20, .inr (.inr (.inr (.inr (rg_f rq_this_history_ring)))))), (wo_6_iiir (rq_this_history_ring 0) (rD_this_history_ring 0) (rR_this_history_ring 0) (rG_this_history_ring 0) (rr_this_history_ring 0)), (wi_0_6_0 a_this_now_trusts cy g_this_now_trusts), (wi_0_6_0 (rr_this_history_ring 0) cy (rF_this_history_ring 0)), (wo_6_iiir (rq_this_history_ring 1) (rD_this_history_ring 1) (rR_this_history_ring 1) (rG_this_history_ring 1) (rr_this_history_ring 1)), (wi_0_6_0 (rr_this_history_ring 1) cy (rF_this_history_ring 1)), (wo_6_iiir (rq_this_history_ring 2) (rD_this_history_ring 2) (rR_this_history_ring 2) (rG_this_history_ring 2) (rr_this_history_ring 2)), (wi_0_6_0 (rr_this_history_ring 2) cy (rF_this_history_ring 2)), (wo_6_iiir (rq_this_history_ring 3) (rD_this_history_ring 3) (rR_this_history_ring 3) (rG_this_history_ring 3) (rr_this_history_ring 3)), (wi_0_6_0 (rr_this_history_ring 3) cy (rF_this_history_ring 3)), (wo_6_iiir (rq_this_history_ring 4) (rD_this_history_ring 4) (rR_this_history_ring 4) (rG_this_history_ring 4) (rr_this_history_ring 4)), (wi_0_6_0 (rr_this_history_ring 4) cy (rF_this_history_ring 4)), (wo_6_iiir (rq_this_history_ring 5) (rD_this_history_ring 5) (rR_this_history_ring 5) (rG_this_history_ring 5) (rr_this_history_ring 5)), (wi_0_6_0 (rr_this_history_ring 5) cy (rF_this_history_ring 5)), (wo_6_iiir (rq_this_history_ring 6) (rD_this_history_ring 6) (rR_this_history_ring 6) (rG_this_history_ring 6) (rr_this_history_ring 6)), (wi_0_6_0 (rr_this_history_ring 6) cy (rF_this_history_ring 6)), (wo_6_iiir (rq_this_history_ring 7) (rD_this_history_ring 7) (rR_this_history_ring 7) (rG_this_history_ring 7) (rr_this_history_ring 7)), (wi_0_6_0 (rr_this_history_ring 7) cy (rF_this_history_ring 7)), (wo_6_iiir (rq_this_history_ring 8) (rD_this_history_ring 8) (rR_this_history_ring 8) (rG_this_history_ring 8) (rr_this_history_ring 8)), (wi_0_6_0 (rr_this_history_ring 8) cy (rF_this_history_ring 8)), (wo_6_iiir (rq_this_history_ring 9) (rD_this_history_ring 9) (rR_this_history_ring 9) (rG_this_history_ring 9) (rr_this_history_ring 9)), (wi_0_6_0 (rr_this_history_ring 9) cy (rF_this_history_ring 9)), (wo_6_iiir (rq_this_history_ring 10) (rD_this_history_ring 10) (rR_this_history_ring 10) (rG_this_history_ring 10) (rr_this_history_ring 10)), (wi_0_6_0 (rr_this_history_ring 10) cy (rF_this_history_ring 10)), (wo_6_iiir (rq_this_history_ring 11) (rD_this_history_ring 11) (rR_this_history_ring 11) (rG_this_history_ring 11) (rr_this_history_ring 11)), (wi_0_6_0 (rr_this_history_ring 11) cy (rF_this_history_ring 11)), (wo_6_iiir (rq_this_history_ring 12) (rD_this_history_ring 12) (rR_this_history_ring 12) (rG_this_history_ring 12) (rr_this_history_ring 12)), (wi_0_6_0 (rr_this_history_ring 12) cy (rF_this_history_ring 12)), (wo_6_iiir (rq_this_history_ring 13) (rD_this_history_ring 13) (rR_this_history_ring 13) (rG_this_history_ring 13) (rr_this_history_ring 13)), (wi_0_6_0 (rr_this_history_ring 13) cy (rF_this_history_ring 13)), (wo_6_iiir (rq_this_history_ring 14) (rD_this_history_ring 14) (rR_this_history_ring 14) (rG_this_history_ring 14) (rr_this_history_ring 14)), (wi_0_6_0 (rr_this_history_ring 14) cy (rF_this_history_ring 14)), (wo_6_iiir (rq_this_history_ring 15) (rD_this_history_ring 15) (rR_this_history_ring 15) (rG_this_history_ring 15) (rr_this_history_ring 15)), (wi_0_6_0 (rr_this_history_ring 15) cy (rF_this_history_ring 15)), (wo_6_iiir (rq_this_history_ring 16) (rD_this_history_ring 16) (rR_this_history_ring 16) (rG_this_history_ring 16) (rr_this_history_ring 16)), (wi_0_6_0 (rr_this_history_ring 16) cy (rF_this_history_ring 16)), (wo_6_iiir (rq_this_history_ring 17) (rD_this_history_ring 17) (rR_this_history_ring 17) (rG_this_history_ring 17) (rr_this_history_ring 17)), (wi_0_6_0 (rr_this_history_ring 17) cy (rF_this_history_ring 17)), (wo_6_iiir (rq_this_history_ring 18) (rD_this_history_ring 18) (rR_this_history_ring 18) (rG_this_history_ring 18) (rr_this_history_ring 18)), (wi_0_6_0 (rr_this_history_ring 18) cy (rF_this_history_ring 18)), (wo_6_iiir (rq_this_history_ring 19) (rD_this_history_ring 19) (rR_this_history_ring 19) (rG_this_history_ring 19) (rr_this_history_ring 19)), (wi_0_6_0 (rr_this_history_ring 19) cy (rF_this_history_ring 19)), (wo_1_rri a_this_choice a_this_street a_this_choice_table x_this_choice_tableKnown), (wo_0_rrrri a_this_ahead a_this_street a_this_ahead_state a_this_ahead_told a_this_ahead_trusts x_this_ahead_known), (wo_8_rrriiriiiii a_this_watch a_this_street a_this_watch_seenWalker a_this_watch_seenSecond x_this_watch_rows x_this_watch_compared a_this_watch_seconds x_this_watch_found x_this_watch_foundRules x_this_watch_foundGreen x_this_watch_chosen x_this_watch_chosenLeft), (wi_0_6_0 a_this_refusals cy g_this_refusals)] H → va_D A [(wo_9_rirrrrrrrrrrrirl a_this a_this_tape x_this_tapeSize a_this_plan a_this_spare a_this_now a_this_history a_this_machine a_this_reader a_this_street a_this_choice a_this_ahead a_this_watch a_this_octets x_this_octetCount a_this_refusals x_this_drawn), (wo_4_iiiiiiirrrirrrrrir a_this_plan x_this_plan_cycle x_this_plan_green x_this_plan_rule x_this_plan_least x_this_plan_away x_this_plan_statements x_this_plan_kinds a_this_plan_calm a_this_plan_pace a_this_plan_trusts x_this_plan_walkers a_this_plan_kindOf a_this_plan_comesAt a_this_plan_comers a_this_plan_names a_this_plan_code x_this_plan_size a_this_plan_spans), (wo_6_iiir a_this_now x_this_now_day x_this_now_rule x_this_now_green a_this_now_trusts), (wo_2_rii a_this_history a_this_history_ring x_this_history_next x_this_history_count), (a_this_history_ring, .inl (cy 4, 20, .inr (.inr (.inr (.inr (rg_f rq_this_history_ring)))))), (wo_6_iiir (rq_this_history_ring 0) (rD_this_history_ring 0) (rR_this_history_ring 0) (rG_this_history_ring 0) (rr_this_history_ring 0)), (wi_0_6_0 a_this_now_trusts cy g_this_now_trusts), (wi_0_6_0 (rr_this_history_ring 0) cy (rF_this_history_ring 0)), (wo_6_iiir (rq_this_history_ring 1) (rD_this_history_ring 1) (rR_this_history_ring 1) (rG_this_history_ring 1) (rr_this_history_ring 1)), (wi_0_6_0 (rr_this_history_ring 1) cy (rF_this_history_ring 1)), (wo_6_iiir (rq_this_history_ring 2) (rD_this_history_ring 2) (rR_this_history_ring 2) (rG_this_history_ring 2) (rr_this_history_ring 2)), (wi_0_6_0 (rr_this_history_ring 2) cy (rF_this_history_ring 2)), (wo_6_iiir (rq_this_history_ring 3) (rD_this_history_ring 3) (rR_this_history_ring 3) (rG_this_history_ring 3) (rr_this_history_ring 3)), (wi_0_6_0 (rr_this_history_ring 3) cy (rF_this_history_ring 3)), (wo_6_iiir (rq_this_history_ring 4) (rD_this_history_ring 4) (rR_this_history_ring 4) (rG_this_history_ring 4) (rr_this_history_ring 4)), (wi_0_6_0 (rr_this_history_ring 4) cy (rF_this_history_ring 4)), (wo_6_iiir (rq_this_history_ring 5) (rD_this_history_ring 5) (rR_this_history_ring 5) (rG_this_history_ring 5) (rr_this_history_ring 5)), (wi_0_6_0 (rr_this_history_ring 5) cy (rF_this_history_ring 5)), (wo_6_iiir (rq_this_history_ring 6) (rD_this_history_ring 6) (rR_this_history_ring 6) (rG_this_history_ring 6) (rr_this_history_ring 6)), (wi_0_6_0 (rr_this_history_ring 6) cy (rF_this_history_ring 6)), (wo_6_iiir (rq_this_history_ring 7) (rD_this_history_ring 7) (rR_this_history_ring 7) (rG_this_history_ring 7) (rr_this_history_ring 7)), (wi_0_6_0 (rr_this_history_ring 7) cy (rF_this_history_ring 7)), (wo_6_iiir (rq_this_history_ring 8) (rD_this_history_ring 8) (rR_this_history_ring 8) (rG_this_history_ring 8) (rr_this_history_ring 8)), (wi_0_6_0 (rr_this_history_ring 8) cy (rF_this_history_ring 8)), (wo_6_iiir (rq_this_history_ring 9) (rD_this_history_ring 9) (rR_this_history_ring 9) (rG_this_history_ring 9) (rr_this_history_ring 9)), (wi_0_6_0 (rr_this_history_ring 9) cy (rF_this_history_ring 9)), (wo_6_iiir (rq_this_history_ring 10) (rD_this_history_ring 10) (rR_this_history_ring 10) (rG_this_history_ring 10) (rr_this_history_ring 10)), (wi_0_6_0 (rr_this_history_ring 10) cy (rF_this_history_ring 10)), (wo_6_iiir (rq_this_history_ring 11) (rD_this_history_ring 11) (rR_this_history_ring 11) (rG_this_history_ring 11) (rr_this_history_ring 11)), (wi_0_6_0 (rr_this_history_ring 11) cy (rF_this_history_ring 11)), (wo_6_iiir (rq_this_history_ring 12) (rD_this_history_ring 12) (rR_this_history_ring 12) (rG_this_history_ring 12) (rr_this_history_ring 12)), (wi_0_6_0 (rr_this_history_ring 12) cy (rF_this_history_ring 12)), (wo_6_iiir (rq_this_history_ring 13) (rD_this_history_ring 13) (rR_this_history_ring 13) (rG_this_history_ring 13) (rr_this_history_ring 13)), (wi_0_6_0 (rr_this_history_ring 13) cy (rF_this_history_ring 13)), (wo_6_iiir (rq_this_history_ring 14) (rD_this_history_ring 14) (rR_this_history_ring 14) (rG_this_history_ring 14) (rr_this_history_ring 14)), (wi_0_6_0 (rr_this_history_ring 14) cy (rF_this_history_ring 14)), (wo_6_iiir (rq_this_history_ring 15) (rD_this_history_ring 15) (rR_this_history_ring 15) (rG_this_history_ring 15) (rr_this_history_ring 15)), (wi_0_6_0 (rr_this_history_ring 15) cy (rF_this_history_ring 15)), (wo_6_iiir (rq_this_history_ring 16) (rD_this_history_ring 16) (rR_this_history_ring 16) (rG_this_history_ring 16) (rr_this_history_ring 16)), (wi_0_6_0 (rr_this_history_ring 16) cy (rF_this_history_ring 16)), (wo_6_iiir (rq_this_history_ring 17) (rD_this_history_ring 17) (rR_this_history_ring 17) (rG_this_history_ring 17) (rr_this_history_ring 17)), (wi_0_6_0 (rr_this_history_ring 17) cy (rF_this_history_ring 17)), (wo_6_iiir (rq_this_history_ring 18) (rD_this_history_ring 18) (rR_this_history_ring 18) (rG_this_history_ring 18) (rr_this_history_ring 18)), (wi_0_6_0 (rr_this_history_ring 18) cy (rF_this_history_ring 18)), (wo_6_iiir (rq_this_history_ring 19) (rD_this_history_ring 19) (rR_this_history_ring 19) (rG_this_history_ring 19) (rr_this_history_ring 19)), (wi_0_6_0 (rr_this_history_ring 19) cy (rF_this_history_ring 19)), (wo_1_rri a_this_choice a_this_street a_this_choice_table x_this_choice_tableKnown), (wo_0_rrrri a_this_ahead a_this_street a_this_ahead_state a_this_ahead_told a_this_ahead_trusts x_this_ahead_known), (wo_8_rrriiriiiii a_this_watch a_this_street a_this_watch_seenWalker a_this_watch_seenSecond x_this_watch_rows x_this_watch_compared a_this_watch_seconds x_this_watch_found x_this_watch_foundRules x_this_watch_foundGreen x_this_watch_chosen x_this_watch_chosenLeft), (wi_0_6_0 a_this_refusals cy g_this_refusals)] → va_S A s.heap H locs → lv_has ls 2 [(0, .ref a_this), (1, .int p0)] → W p l e { frames := 4, cells := 0, slots := 0, locals := 126 } s m args below meth c H locs 0 0 Q (F0 m 22 ls []) := by
    intro H locs ls hq hP hD hS hl
    unfold F_X9_green_22 at hq
    refine lv_aload_n hx hb dX9_green_22 rfl (lv_at hl 0 rfl) ?_
    refine lv_iconst (v := 2) hx hb dX9_green_23 rfl ?_
    refine k_jim hP hD hS hA [0, 49] [false, true, true, true, true, true, true, true, true, true, true, true, true, true, true, true, true, true, true, true, true, true, true, true, true, true, true, true, true, true, true, true, true, true, true, true, true, true, true, true, true, true, true, true, true, true, true, true, true] rfl rfl (by decide +kernel) 0 0 (Nat.le_of_ble_eq_true rfl) (Nat.le_of_ble_eq_true rfl) (fun hPc hDc => k_runV (As := [.int 2]) (rest := []) C0 hZ hS hA (s_X9_deny l dC dI cy sq a_this a_this_tape x_this_tapeSize a_this_plan a_this_spare a_this_now a_this_history a_this_machine a_this_reader a_this_street a_this_choice a_this_ahead a_this_watch a_this_octets x_this_octetCount a_this_refusals g_this_refusals x_this_drawn 2 (ib_w 0 5 (ib_c 2 2 2 rfl) rfl)) mV_X9_110 hPc hDc rfl rfl rfl hl rfl rfl (Nat.le_of_ble_eq_true rfl) ⟨(Nat.le_of_ble_eq_true rfl), (Nat.le_of_ble_eq_true rfl)⟩ ⟨(Nat.le_of_ble_eq_true rfl), (Nat.le_of_ble_eq_true rfl)⟩ dX9_green_24) (fun r1 u2 H locs hw hP hD hS => ?_)
    obtain ⟨f3, ef3⟩ : ∃ z, z = u2 := ⟨_, rfl⟩; subst ef3
    try dsimp only at hP hD hw
    replace hP : va_P (dC, dI) vwCl [(wo_4_iiiiiiirrrirrrrrir a_this_plan x_this_plan_cycle x_this_plan_green x_this_plan_rule x_this_plan_least x_this_plan_away x_this_plan_statements x_this_plan_kinds a_this_plan_calm a_this_plan_pace a_this_plan_trusts x_this_plan_walkers a_this_plan_kindOf a_this_plan_comesAt a_this_plan_comers a_this_plan_names a_this_plan_code x_this_plan_size a_this_plan_spans), (wo_6_iiir a_this_now x_this_now_day x_this_now_rule x_this_now_green a_this_now_trusts), (wo_2_rii a_this_history a_this_history_ring x_this_history_next x_this_history_count), (a_this_history_ring, .inl (cy 4, 20, .inr (.inr (.inr (.inr (rg_f rq_this_history_ring)))))), (wo_6_iiir (rq_this_history_ring 0) (rD_this_history_ring 0) (rR_this_history_ring 0) (rG_this_history_ring 0) (rr_this_history_ring 0)), (wi_0_6_0 a_this_now_trusts cy g_this_now_trusts), (wi_0_6_0 (rr_this_history_ring 0) cy (rF_this_history_ring 0)), (wo_6_iiir (rq_this_history_ring 1) (rD_this_history_ring 1) (rR_this_history_ring 1) (rG_this_history_ring 1) (rr_this_history_ring 1)), (wi_0_6_0 (rr_this_history_ring 1) cy (rF_this_history_ring 1)), (wo_6_iiir (rq_this_history_ring 2) (rD_this_history_ring 2) (rR_this_history_ring 2) (rG_this_history_ring 2) (rr_this_history_ring 2)), (wi_0_6_0 (rr_this_history_ring 2) cy (rF_this_history_ring 2)), (wo_6_iiir (rq_this_history_ring 3) (rD_this_history_ring 3) (rR_this_history_ring 3) (rG_this_history_ring 3) (rr_this_history_ring 3)), (wi_0_6_0 (rr_this_history_ring 3) cy (rF_this_history_ring 3)), (wo_6_iiir (rq_this_history_ring 4) (rD_this_history_ring 4) (rR_this_history_ring 4) (rG_this_history_ring 4) (rr_this_history_ring 4)), (wi_0_6_0 (rr_this_history_ring 4) cy (rF_this_history_ring 4)), (wo_6_iiir (rq_this_history_ring 5) (rD_this_history_ring 5) (rR_this_history_ring 5) (rG_this_history_ring 5) (rr_this_history_ring 5)), (wi_0_6_0 (rr_this_history_ring 5) cy (rF_this_history_ring 5)), (wo_6_iiir (rq_this_history_ring 6) (rD_this_history_ring 6) (rR_this_history_ring 6) (rG_this_history_ring 6) (rr_this_history_ring 6)), (wi_0_6_0 (rr_this_history_ring 6) cy (rF_this_history_ring 6)), (wo_6_iiir (rq_this_history_ring 7) (rD_this_history_ring 7) (rR_this_history_ring 7) (rG_this_history_ring 7) (rr_this_history_ring 7)), (wi_0_6_0 (rr_this_history_ring 7) cy (rF_this_history_ring 7)), (wo_6_iiir (rq_this_history_ring 8) (rD_this_history_ring 8) (rR_this_history_ring 8) (rG_this_history_ring 8) (rr_this_history_ring 8)), (wi_0_6_0 (rr_this_history_ring 8) cy (rF_this_history_ring 8)), (wo_6_iiir (rq_this_history_ring 9) (rD_this_history_ring 9) (rR_this_history_ring 9) (rG_this_history_ring 9) (rr_this_history_ring 9)), (wi_0_6_0 (rr_this_history_ring 9) cy (rF_this_history_ring 9)), (wo_6_iiir (rq_this_history_ring 10) (rD_this_history_ring 10) (rR_this_history_ring 10) (rG_this_history_ring 10) (rr_this_history_ring 10)), (wi_0_6_0 (rr_this_history_ring 10) cy (rF_this_history_ring 10)), (wo_6_iiir (rq_this_history_ring 11) (rD_this_history_ring 11) (rR_this_history_ring 11) (rG_this_history_ring 11) (rr_this_history_ring 11)), (wi_0_6_0 (rr_this_history_ring 11) cy (rF_this_history_ring 11)), (wo_6_iiir (rq_this_history_ring 12) (rD_this_history_ring 12) (rR_this_history_ring 12) (rG_this_history_ring 12) (rr_this_history_ring 12)), (wi_0_6_0 (rr_this_history_ring 12) cy (rF_this_history_ring 12)), (wo_6_iiir (rq_this_history_ring 13) (rD_this_history_ring 13) (rR_this_history_ring 13) (rG_this_history_ring 13) (rr_this_history_ring 13)), (wi_0_6_0 (rr_this_history_ring 13) cy (rF_this_history_ring 13)), (wo_6_iiir (rq_this_history_ring 14) (rD_this_history_ring 14) (rR_this_history_ring 14) (rG_this_history_ring 14) (rr_this_history_ring 14)), (wi_0_6_0 (rr_this_history_ring 14) cy (rF_this_history_ring 14)), (wo_6_iiir (rq_this_history_ring 15) (rD_this_history_ring 15) (rR_this_history_ring 15) (rG_this_history_ring 15) (rr_this_history_ring 15)), (wi_0_6_0 (rr_this_history_ring 15) cy (rF_this_history_ring 15)), (wo_6_iiir (rq_this_history_ring 16) (rD_this_history_ring 16) (rR_this_history_ring 16) (rG_this_history_ring 16) (rr_this_history_ring 16)), (wi_0_6_0 (rr_this_history_ring 16) cy (rF_this_history_ring 16)), (wo_6_iiir (rq_this_history_ring 17) (rD_this_history_ring 17) (rR_this_history_ring 17) (rG_this_history_ring 17) (rr_this_history_ring 17)), (wi_0_6_0 (rr_this_history_ring 17) cy (rF_this_history_ring 17)), (wo_6_iiir (rq_this_history_ring 18) (rD_this_history_ring 18) (rR_this_history_ring 18) (rG_this_history_ring 18) (rr_this_history_ring 18)), (wi_0_6_0 (rr_this_history_ring 18) cy (rF_this_history_ring 18)), (wo_6_iiir (rq_this_history_ring 19) (rD_this_history_ring 19) (rR_this_history_ring 19) (rG_this_history_ring 19) (rr_this_history_ring 19)), (wi_0_6_0 (rr_this_history_ring 19) cy (rF_this_history_ring 19)), (wo_1_rri a_this_choice a_this_street a_this_choice_table x_this_choice_tableKnown), (wo_0_rrrri a_this_ahead a_this_street a_this_ahead_state a_this_ahead_told a_this_ahead_trusts x_this_ahead_known), (wo_8_rrriiriiiii a_this_watch a_this_street a_this_watch_seenWalker a_this_watch_seenSecond x_this_watch_rows x_this_watch_compared a_this_watch_seconds x_this_watch_found x_this_watch_foundRules x_this_watch_foundGreen x_this_watch_chosen x_this_watch_chosenLeft), (wo_9_rirrrrrrrrrrrirl a_this a_this_tape x_this_tapeSize a_this_plan a_this_spare a_this_now a_this_history a_this_machine a_this_reader a_this_street a_this_choice a_this_ahead a_this_watch a_this_octets x_this_octetCount a_this_refusals x_this_drawn), (wi_0_6_0 a_this_refusals cy f3)] H := hP
    replace hD := k_D hP hD
    obtain ⟨h4, h5⟩ := hw
    have h5 := by have h9 := h5; try simp only [show (2 : Int32).toInt = (2 : Int) from rfl] at h9; exact h9
    replace hq := lf_p1 hq h5
    subst hQ; exact k_iret hx hb hr hlk (ib_bool (ib_w 0 1 h4 rfl)) ((x_this_now_green, x_this_history_next, x_this_history_count, x_this_choice_tableKnown, x_this_ahead_known, x_this_watch_compared, f3, rD_this_history_ring, rR_this_history_ring, rG_this_history_ring, rF_this_history_ring)) hS ⟨ib_w 0 1 h4 rfl, ib_w 0 19 hx_this_history_next rfl, ib_w 0 20 hx_this_history_count rfl, ib_w 0 1 hx_this_choice_tableKnown rfl, ib_w 0 30 hx_this_ahead_known rfl, ib_w 0 1 hx_this_watch_compared rfl, fun hq9 => absurd (ib_one h4 rfl) hq9, fun hq9 => absurd (ib_one h4 rfl) hq9, (hO.symm.trans (by exact hq))⟩ (hP.sub [48, 0, 1, 2, 3, 4, 5, 6, 7, 8, 9, 10, 11, 12, 13, 14, 15, 16, 17, 18, 19, 20, 21, 22, 23, 24, 25, 26, 27, 28, 29, 30, 31, 32, 33, 34, 35, 36, 37, 38, 39, 40, 41, 42, 43, 44, 45, 46, 47, 49] rfl) (hD.sub [48, 0, 1, 2, 3, 4, 5, 6, 7, 8, 9, 10, 11, 12, 13, 14, 15, 16, 17, 18, 19, 20, 21, 22, 23, 24, 25, 26, 27, 28, 29, 30, 31, 32, 33, 34, 35, 36, 37, 38, 39, 40, 41, 42, 43, 44, 45, 46, 47, 49] (by decide +kernel) rfl) (Nat.le_of_ble_eq_true rfl) (Nat.le_of_ble_eq_true rfl) dX9_green_27
  refine lv_aload_n hx hb dX9_green_0 rfl (lv_at hl 0 rfl) ?_
  refine k_get C0 fg_X9_20 hP 0 rfl rfl dX9_green_1 ?_
  refine lv_iload_n hx hb dX9_green_4 rfl (lv_at hl 1 rfl) ?_
  refine k_jim hP hD hS hA [1] [true, false, true, true, true, true, true, true, true, true, true, true, true, true, true, true, true, true, true, true, true, true, true, true, true, true, true, true, true, true, true, true, true, true, true, true, true, true, true, true, true, true, true, true, true, true, true, true, true, true] rfl rfl (by decide +kernel) 0 0 (Nat.le_of_ble_eq_true rfl) (Nat.le_of_ble_eq_true rfl) (fun hPc hDc => k_runV (As := [.int p0]) (rest := []) C0 hZ hS hA (s_X4_allowsGreen l dC dI cy sq a_this_plan x_this_plan_cycle x_this_plan_green x_this_plan_rule x_this_plan_least x_this_plan_away x_this_plan_statements x_this_plan_kinds a_this_plan_calm a_this_plan_pace a_this_plan_trusts x_this_plan_walkers a_this_plan_kindOf a_this_plan_comesAt a_this_plan_comers a_this_plan_names a_this_plan_code x_this_plan_size a_this_plan_spans p0 (ib_w 0 120 hx_this_plan_cycle rfl)) mV_X9_284 hPc hDc rfl rfl rfl hl rfl rfl (Nat.le_of_ble_eq_true rfl) ⟨(Nat.le_of_ble_eq_true rfl), (Nat.le_of_ble_eq_true rfl)⟩ ⟨(Nat.le_of_ble_eq_true rfl), (Nat.le_of_ble_eq_true rfl)⟩ dX9_green_5) (fun r6 u7 H locs hw hP hD hS => ?_)
  try dsimp only at hP hD hw
  replace hP : va_P (dC, dI) vwCl [(wo_9_rirrrrrrrrrrrirl a_this a_this_tape x_this_tapeSize a_this_plan a_this_spare a_this_now a_this_history a_this_machine a_this_reader a_this_street a_this_choice a_this_ahead a_this_watch a_this_octets x_this_octetCount a_this_refusals x_this_drawn), (wo_6_iiir a_this_now x_this_now_day x_this_now_rule x_this_now_green a_this_now_trusts), (wo_2_rii a_this_history a_this_history_ring x_this_history_next x_this_history_count), (a_this_history_ring, .inl (cy 4, 20, .inr (.inr (.inr (.inr (rg_f rq_this_history_ring)))))), (wo_6_iiir (rq_this_history_ring 0) (rD_this_history_ring 0) (rR_this_history_ring 0) (rG_this_history_ring 0) (rr_this_history_ring 0)), (wi_0_6_0 a_this_now_trusts cy g_this_now_trusts), (wi_0_6_0 (rr_this_history_ring 0) cy (rF_this_history_ring 0)), (wo_6_iiir (rq_this_history_ring 1) (rD_this_history_ring 1) (rR_this_history_ring 1) (rG_this_history_ring 1) (rr_this_history_ring 1)), (wi_0_6_0 (rr_this_history_ring 1) cy (rF_this_history_ring 1)), (wo_6_iiir (rq_this_history_ring 2) (rD_this_history_ring 2) (rR_this_history_ring 2) (rG_this_history_ring 2) (rr_this_history_ring 2)), (wi_0_6_0 (rr_this_history_ring 2) cy (rF_this_history_ring 2)), (wo_6_iiir (rq_this_history_ring 3) (rD_this_history_ring 3) (rR_this_history_ring 3) (rG_this_history_ring 3) (rr_this_history_ring 3)), (wi_0_6_0 (rr_this_history_ring 3) cy (rF_this_history_ring 3)), (wo_6_iiir (rq_this_history_ring 4) (rD_this_history_ring 4) (rR_this_history_ring 4) (rG_this_history_ring 4) (rr_this_history_ring 4)), (wi_0_6_0 (rr_this_history_ring 4) cy (rF_this_history_ring 4)), (wo_6_iiir (rq_this_history_ring 5) (rD_this_history_ring 5) (rR_this_history_ring 5) (rG_this_history_ring 5) (rr_this_history_ring 5)), (wi_0_6_0 (rr_this_history_ring 5) cy (rF_this_history_ring 5)), (wo_6_iiir (rq_this_history_ring 6) (rD_this_history_ring 6) (rR_this_history_ring 6) (rG_this_history_ring 6) (rr_this_history_ring 6)), (wi_0_6_0 (rr_this_history_ring 6) cy (rF_this_history_ring 6)), (wo_6_iiir (rq_this_history_ring 7) (rD_this_history_ring 7) (rR_this_history_ring 7) (rG_this_history_ring 7) (rr_this_history_ring 7)), (wi_0_6_0 (rr_this_history_ring 7) cy (rF_this_history_ring 7)), (wo_6_iiir (rq_this_history_ring 8) (rD_this_history_ring 8) (rR_this_history_ring 8) (rG_this_history_ring 8) (rr_this_history_ring 8)), (wi_0_6_0 (rr_this_history_ring 8) cy (rF_this_history_ring 8)), (wo_6_iiir (rq_this_history_ring 9) (rD_this_history_ring 9) (rR_this_history_ring 9) (rG_this_history_ring 9) (rr_this_history_ring 9)), (wi_0_6_0 (rr_this_history_ring 9) cy (rF_this_history_ring 9)), (wo_6_iiir (rq_this_history_ring 10) (rD_this_history_ring 10) (rR_this_history_ring 10) (rG_this_history_ring 10) (rr_this_history_ring 10)), (wi_0_6_0 (rr_this_history_ring 10) cy (rF_this_history_ring 10)), (wo_6_iiir (rq_this_history_ring 11) (rD_this_history_ring 11) (rR_this_history_ring 11) (rG_this_history_ring 11) (rr_this_history_ring 11)), (wi_0_6_0 (rr_this_history_ring 11) cy (rF_this_history_ring 11)), (wo_6_iiir (rq_this_history_ring 12) (rD_this_history_ring 12) (rR_this_history_ring 12) (rG_this_history_ring 12) (rr_this_history_ring 12)), (wi_0_6_0 (rr_this_history_ring 12) cy (rF_this_history_ring 12)), (wo_6_iiir (rq_this_history_ring 13) (rD_this_history_ring 13) (rR_this_history_ring 13) (rG_this_history_ring 13) (rr_this_history_ring 13)), (wi_0_6_0 (rr_this_history_ring 13) cy (rF_this_history_ring 13)), (wo_6_iiir (rq_this_history_ring 14) (rD_this_history_ring 14) (rR_this_history_ring 14) (rG_this_history_ring 14) (rr_this_history_ring 14)), (wi_0_6_0 (rr_this_history_ring 14) cy (rF_this_history_ring 14)), (wo_6_iiir (rq_this_history_ring 15) (rD_this_history_ring 15) (rR_this_history_ring 15) (rG_this_history_ring 15) (rr_this_history_ring 15)), (wi_0_6_0 (rr_this_history_ring 15) cy (rF_this_history_ring 15)), (wo_6_iiir (rq_this_history_ring 16) (rD_this_history_ring 16) (rR_this_history_ring 16) (rG_this_history_ring 16) (rr_this_history_ring 16)), (wi_0_6_0 (rr_this_history_ring 16) cy (rF_this_history_ring 16)), (wo_6_iiir (rq_this_history_ring 17) (rD_this_history_ring 17) (rR_this_history_ring 17) (rG_this_history_ring 17) (rr_this_history_ring 17)), (wi_0_6_0 (rr_this_history_ring 17) cy (rF_this_history_ring 17)), (wo_6_iiir (rq_this_history_ring 18) (rD_this_history_ring 18) (rR_this_history_ring 18) (rG_this_history_ring 18) (rr_this_history_ring 18)), (wi_0_6_0 (rr_this_history_ring 18) cy (rF_this_history_ring 18)), (wo_6_iiir (rq_this_history_ring 19) (rD_this_history_ring 19) (rR_this_history_ring 19) (rG_this_history_ring 19) (rr_this_history_ring 19)), (wi_0_6_0 (rr_this_history_ring 19) cy (rF_this_history_ring 19)), (wo_1_rri a_this_choice a_this_street a_this_choice_table x_this_choice_tableKnown), (wo_0_rrrri a_this_ahead a_this_street a_this_ahead_state a_this_ahead_told a_this_ahead_trusts x_this_ahead_known), (wo_8_rrriiriiiii a_this_watch a_this_street a_this_watch_seenWalker a_this_watch_seenSecond x_this_watch_rows x_this_watch_compared a_this_watch_seconds x_this_watch_found x_this_watch_foundRules x_this_watch_foundGreen x_this_watch_chosen x_this_watch_chosenLeft), (wi_0_6_0 a_this_refusals cy g_this_refusals), (wo_4_iiiiiiirrrirrrrrir a_this_plan x_this_plan_cycle x_this_plan_green x_this_plan_rule x_this_plan_least x_this_plan_away x_this_plan_statements x_this_plan_kinds a_this_plan_calm a_this_plan_pace a_this_plan_trusts x_this_plan_walkers a_this_plan_kindOf a_this_plan_comesAt a_this_plan_comers a_this_plan_names a_this_plan_code x_this_plan_size a_this_plan_spans)] H := hP
  replace hD := k_D hP hD
  obtain ⟨h8, h9, h10, h11⟩ := hw
  replace hq := lf_b1 hq h11
  refine lv_if_eq (tgt := 22) hx hb dX9_green_8 rfl (fun c12 => ?_) (fun c12 => ?_)
  · replace hq := lf_pos hq (lf_eq (lf_rf r6) (lf_lc 0 (0 : Int) rfl) c12)
    have h13 := ib_eq h8 (ib_c 0 0 0 rfl) c12
    have h14 : ib r6 0 0 := ib_w 0 0 h13.1 rfl
    exact jn22  H locs ls (by exact hq) (hP.sub [0, 49, 1, 2, 3, 4, 5, 6, 7, 8, 9, 10, 11, 12, 13, 14, 15, 16, 17, 18, 19, 20, 21, 22, 23, 24, 25, 26, 27, 28, 29, 30, 31, 32, 33, 34, 35, 36, 37, 38, 39, 40, 41, 42, 43, 44, 45, 46, 47, 48] rfl) (hD.sub [0, 49, 1, 2, 3, 4, 5, 6, 7, 8, 9, 10, 11, 12, 13, 14, 15, 16, 17, 18, 19, 20, 21, 22, 23, 24, 25, 26, 27, 28, 29, 30, 31, 32, 33, 34, 35, 36, 37, 38, 39, 40, 41, 42, 43, 44, 45, 46, 47, 48] (by decide +kernel) rfl) hS (lv_sub hl [0, 1] rfl)
  · as_aux_lemma =>
      replace hq := lf_neg hq (lf_ne (lf_rf r6) (lf_lc 0 (0 : Int) rfl) c12)
      have h15 : ib r6 1 1 := ib_w 1 1 (ib_ne_lo 0 h8 rfl c12) rfl
      have h16 : ib x_this_plan_cycle 2 120 := ib_w 2 120 (ib_two hx_this_plan_cycle (h9 c12)) rfl
      have h17 : ib p0 1 60 := ib_w 1 60 (ib_two (ib_any p0) (h10 c12)) rfl
      refine lv_iload_n hx hb dX9_green_11 rfl (lv_at hl 1 rfl) ?_
      refine lv_aload_n hx hb dX9_green_12 rfl (lv_at hl 0 rfl) ?_
      refine k_get C0 fg_X9_30 hP 0 rfl rfl dX9_green_13 ?_
      refine k_get C0 fg_X9_160 hP 1 rfl rfl dX9_green_16 ?_
      refine lv_icmp_ne (tgt := 28) hx hb dX9_green_19 rfl (fun c18 => ?_) (fun c18 => ?_)
      · as_aux_lemma =>
          replace hq := lf_neg hq (lf_ne (lf_rf p0) (lf_rf x_this_now_green) c18)
          refine lv_aload_n hx hb dX9_green_28 rfl (lv_at hl 0 rfl) ?_
          refine k_jvm hP hD hS hA [0, 2, 3, 4, 1, 5, 6, 7, 8, 9, 10, 11, 12, 13, 14, 15, 16, 17, 18, 19, 20, 21, 22, 23, 24, 25, 26, 27, 28, 29, 30, 31, 32, 33, 34, 35, 36, 37, 38, 39, 40, 41, 42, 43, 44, 45, 46, 47] [false, false, false, false, false, false, false, false, false, false, false, false, false, false, false, false, false, false, false, false, false, false, false, false, false, false, false, false, false, false, false, false, false, false, false, false, false, false, false, false, false, false, false, false, false, false, false, false, true, true] rfl rfl (by decide +kernel) 0 0 (Nat.le_of_ble_eq_true rfl) (Nat.le_of_ble_eq_true rfl) (fun hPc hDc => k_runV (As := []) (rest := []) C0 hZ hS hA (s_X9_act l dC dI cy sq a_this a_this_tape x_this_tapeSize a_this_plan a_this_spare a_this_now x_this_now_day x_this_now_rule x_this_now_green a_this_now_trusts g_this_now_trusts a_this_history a_this_history_ring rq_this_history_ring rr_this_history_ring rD_this_history_ring rR_this_history_ring rG_this_history_ring rF_this_history_ring x_this_history_next x_this_history_count a_this_machine a_this_reader a_this_street a_this_choice a_this_choice_table x_this_choice_tableKnown a_this_ahead a_this_ahead_state a_this_ahead_told a_this_ahead_trusts x_this_ahead_known a_this_watch a_this_watch_seenWalker a_this_watch_seenSecond x_this_watch_rows x_this_watch_compared a_this_watch_seconds x_this_watch_found x_this_watch_foundRules x_this_watch_foundGreen x_this_watch_chosen x_this_watch_chosenLeft a_this_octets x_this_octetCount a_this_refusals x_this_drawn (ib_w 0 19 hx_this_history_next rfl) (ib_w 0 20 hx_this_history_count rfl)) mV_X9_281 hPc hDc rfl rfl rfl hl rfl rfl (Nat.le_of_ble_eq_true rfl) ⟨(Nat.le_of_ble_eq_true rfl), (Nat.le_of_ble_eq_true rfl)⟩ ⟨(Nat.le_of_ble_eq_true rfl), (Nat.le_of_ble_eq_true rfl)⟩ dX9_green_29) (fun u20 H locs hw hP hD hS => ?_)
          obtain ⟨v21, v22, f23, f24, f25, f26⟩ := u20
          try dsimp only at hP hD hw
          replace hP : va_P (dC, dI) vwCl [(wi_0_6_0 a_this_refusals cy g_this_refusals), (wo_4_iiiiiiirrrirrrrrir a_this_plan x_this_plan_cycle x_this_plan_green x_this_plan_rule x_this_plan_least x_this_plan_away x_this_plan_statements x_this_plan_kinds a_this_plan_calm a_this_plan_pace a_this_plan_trusts x_this_plan_walkers a_this_plan_kindOf a_this_plan_comesAt a_this_plan_comers a_this_plan_names a_this_plan_code x_this_plan_size a_this_plan_spans), (wo_9_rirrrrrrrrrrrirl a_this a_this_tape x_this_tapeSize a_this_plan a_this_spare a_this_now a_this_history a_this_machine a_this_reader a_this_street a_this_choice a_this_ahead a_this_watch a_this_octets x_this_octetCount a_this_refusals x_this_drawn), (wo_2_rii a_this_history a_this_history_ring v21 v22), (a_this_history_ring, .inl (cy 4, 20, .inr (.inr (.inr (.inr (rg_f rq_this_history_ring)))))), (wo_6_iiir (rq_this_history_ring 0) (f23 0) (f24 0) (f25 0) (rr_this_history_ring 0)), (wo_6_iiir a_this_now x_this_now_day x_this_now_rule x_this_now_green a_this_now_trusts), (wi_0_6_0 a_this_now_trusts cy g_this_now_trusts), (wi_0_6_0 (rr_this_history_ring 0) cy (f26 0)), (wo_6_iiir (rq_this_history_ring 1) (f23 1) (f24 1) (f25 1) (rr_this_history_ring 1)), (wi_0_6_0 (rr_this_history_ring 1) cy (f26 1)), (wo_6_iiir (rq_this_history_ring 2) (f23 2) (f24 2) (f25 2) (rr_this_history_ring 2)), (wi_0_6_0 (rr_this_history_ring 2) cy (f26 2)), (wo_6_iiir (rq_this_history_ring 3) (f23 3) (f24 3) (f25 3) (rr_this_history_ring 3)), (wi_0_6_0 (rr_this_history_ring 3) cy (f26 3)), (wo_6_iiir (rq_this_history_ring 4) (f23 4) (f24 4) (f25 4) (rr_this_history_ring 4)), (wi_0_6_0 (rr_this_history_ring 4) cy (f26 4)), (wo_6_iiir (rq_this_history_ring 5) (f23 5) (f24 5) (f25 5) (rr_this_history_ring 5)), (wi_0_6_0 (rr_this_history_ring 5) cy (f26 5)), (wo_6_iiir (rq_this_history_ring 6) (f23 6) (f24 6) (f25 6) (rr_this_history_ring 6)), (wi_0_6_0 (rr_this_history_ring 6) cy (f26 6)), (wo_6_iiir (rq_this_history_ring 7) (f23 7) (f24 7) (f25 7) (rr_this_history_ring 7)), (wi_0_6_0 (rr_this_history_ring 7) cy (f26 7)), (wo_6_iiir (rq_this_history_ring 8) (f23 8) (f24 8) (f25 8) (rr_this_history_ring 8)), (wi_0_6_0 (rr_this_history_ring 8) cy (f26 8)), (wo_6_iiir (rq_this_history_ring 9) (f23 9) (f24 9) (f25 9) (rr_this_history_ring 9)), (wi_0_6_0 (rr_this_history_ring 9) cy (f26 9)), (wo_6_iiir (rq_this_history_ring 10) (f23 10) (f24 10) (f25 10) (rr_this_history_ring 10)), (wi_0_6_0 (rr_this_history_ring 10) cy (f26 10)), (wo_6_iiir (rq_this_history_ring 11) (f23 11) (f24 11) (f25 11) (rr_this_history_ring 11)), (wi_0_6_0 (rr_this_history_ring 11) cy (f26 11)), (wo_6_iiir (rq_this_history_ring 12) (f23 12) (f24 12) (f25 12) (rr_this_history_ring 12)), (wi_0_6_0 (rr_this_history_ring 12) cy (f26 12)), (wo_6_iiir (rq_this_history_ring 13) (f23 13) (f24 13) (f25 13) (rr_this_history_ring 13)), (wi_0_6_0 (rr_this_history_ring 13) cy (f26 13)), (wo_6_iiir (rq_this_history_ring 14) (f23 14) (f24 14) (f25 14) (rr_this_history_ring 14)), (wi_0_6_0 (rr_this_history_ring 14) cy (f26 14)), (wo_6_iiir (rq_this_history_ring 15) (f23 15) (f24 15) (f25 15) (rr_this_history_ring 15)), (wi_0_6_0 (rr_this_history_ring 15) cy (f26 15)), (wo_6_iiir (rq_this_history_ring 16) (f23 16) (f24 16) (f25 16) (rr_this_history_ring 16)), (wi_0_6_0 (rr_this_history_ring 16) cy (f26 16)), (wo_6_iiir (rq_this_history_ring 17) (f23 17) (f24 17) (f25 17) (rr_this_history_ring 17)), (wi_0_6_0 (rr_this_history_ring 17) cy (f26 17)), (wo_6_iiir (rq_this_history_ring 18) (f23 18) (f24 18) (f25 18) (rr_this_history_ring 18)), (wi_0_6_0 (rr_this_history_ring 18) cy (f26 18)), (wo_6_iiir (rq_this_history_ring 19) (f23 19) (f24 19) (f25 19) (rr_this_history_ring 19)), (wi_0_6_0 (rr_this_history_ring 19) cy (f26 19)), (wo_1_rri a_this_choice a_this_street a_this_choice_table 0), (wo_0_rrrri a_this_ahead a_this_street a_this_ahead_state a_this_ahead_told a_this_ahead_trusts 0), (wo_8_rrriiriiiii a_this_watch a_this_street a_this_watch_seenWalker a_this_watch_seenSecond x_this_watch_rows 0 a_this_watch_seconds x_this_watch_found x_this_watch_foundRules x_this_watch_foundGreen x_this_watch_chosen x_this_watch_chosenLeft)] H := hP
          replace hD := k_D hP hD
          obtain ⟨h27, h28, h29⟩ := hw
          replace hq := lf_p1 hq h29
          replace hq := lf_p1 hq rfl
          replace hq := lf_p1 hq rfl
          replace hq := lf_p1 hq rfl
          replace hq := lf_p1 hq rfl
          refine lv_aload_n hx hb dX9_green_32 rfl (lv_at hl 0 rfl) ?_
          refine k_get C0 fg_X9_30 hP 2 rfl rfl dX9_green_33 ?_
          refine lv_iload_n hx hb dX9_green_36 rfl (lv_at hl 1 rfl) ?_
          refine k_put C0 fp_X9_160 hP hD hS 6 rfl rfl rfl (Nat.le_of_ble_eq_true rfl) dX9_green_37 (fun H locs hP hD hS => ?_)
          replace hP : va_P (dC, dI) vwCl [(wi_0_6_0 a_this_refusals cy g_this_refusals), (wo_4_iiiiiiirrrirrrrrir a_this_plan x_this_plan_cycle x_this_plan_green x_this_plan_rule x_this_plan_least x_this_plan_away x_this_plan_statements x_this_plan_kinds a_this_plan_calm a_this_plan_pace a_this_plan_trusts x_this_plan_walkers a_this_plan_kindOf a_this_plan_comesAt a_this_plan_comers a_this_plan_names a_this_plan_code x_this_plan_size a_this_plan_spans), (wo_9_rirrrrrrrrrrrirl a_this a_this_tape x_this_tapeSize a_this_plan a_this_spare a_this_now a_this_history a_this_machine a_this_reader a_this_street a_this_choice a_this_ahead a_this_watch a_this_octets x_this_octetCount a_this_refusals x_this_drawn), (wo_2_rii a_this_history a_this_history_ring v21 v22), (a_this_history_ring, .inl (cy 4, 20, .inr (.inr (.inr (.inr (rg_f rq_this_history_ring)))))), (wo_6_iiir (rq_this_history_ring 0) (f23 0) (f24 0) (f25 0) (rr_this_history_ring 0)), (wo_6_iiir a_this_now x_this_now_day x_this_now_rule p0 a_this_now_trusts), (wi_0_6_0 a_this_now_trusts cy g_this_now_trusts), (wi_0_6_0 (rr_this_history_ring 0) cy (f26 0)), (wo_6_iiir (rq_this_history_ring 1) (f23 1) (f24 1) (f25 1) (rr_this_history_ring 1)), (wi_0_6_0 (rr_this_history_ring 1) cy (f26 1)), (wo_6_iiir (rq_this_history_ring 2) (f23 2) (f24 2) (f25 2) (rr_this_history_ring 2)), (wi_0_6_0 (rr_this_history_ring 2) cy (f26 2)), (wo_6_iiir (rq_this_history_ring 3) (f23 3) (f24 3) (f25 3) (rr_this_history_ring 3)), (wi_0_6_0 (rr_this_history_ring 3) cy (f26 3)), (wo_6_iiir (rq_this_history_ring 4) (f23 4) (f24 4) (f25 4) (rr_this_history_ring 4)), (wi_0_6_0 (rr_this_history_ring 4) cy (f26 4)), (wo_6_iiir (rq_this_history_ring 5) (f23 5) (f24 5) (f25 5) (rr_this_history_ring 5)), (wi_0_6_0 (rr_this_history_ring 5) cy (f26 5)), (wo_6_iiir (rq_this_history_ring 6) (f23 6) (f24 6) (f25 6) (rr_this_history_ring 6)), (wi_0_6_0 (rr_this_history_ring 6) cy (f26 6)), (wo_6_iiir (rq_this_history_ring 7) (f23 7) (f24 7) (f25 7) (rr_this_history_ring 7)), (wi_0_6_0 (rr_this_history_ring 7) cy (f26 7)), (wo_6_iiir (rq_this_history_ring 8) (f23 8) (f24 8) (f25 8) (rr_this_history_ring 8)), (wi_0_6_0 (rr_this_history_ring 8) cy (f26 8)), (wo_6_iiir (rq_this_history_ring 9) (f23 9) (f24 9) (f25 9) (rr_this_history_ring 9)), (wi_0_6_0 (rr_this_history_ring 9) cy (f26 9)), (wo_6_iiir (rq_this_history_ring 10) (f23 10) (f24 10) (f25 10) (rr_this_history_ring 10)), (wi_0_6_0 (rr_this_history_ring 10) cy (f26 10)), (wo_6_iiir (rq_this_history_ring 11) (f23 11) (f24 11) (f25 11) (rr_this_history_ring 11)), (wi_0_6_0 (rr_this_history_ring 11) cy (f26 11)), (wo_6_iiir (rq_this_history_ring 12) (f23 12) (f24 12) (f25 12) (rr_this_history_ring 12)), (wi_0_6_0 (rr_this_history_ring 12) cy (f26 12)), (wo_6_iiir (rq_this_history_ring 13) (f23 13) (f24 13) (f25 13) (rr_this_history_ring 13)), (wi_0_6_0 (rr_this_history_ring 13) cy (f26 13)), (wo_6_iiir (rq_this_history_ring 14) (f23 14) (f24 14) (f25 14) (rr_this_history_ring 14)), (wi_0_6_0 (rr_this_history_ring 14) cy (f26 14)), (wo_6_iiir (rq_this_history_ring 15) (f23 15) (f24 15) (f25 15) (rr_this_history_ring 15)), (wi_0_6_0 (rr_this_history_ring 15) cy (f26 15)), (wo_6_iiir (rq_this_history_ring 16) (f23 16) (f24 16) (f25 16) (rr_this_history_ring 16)), (wi_0_6_0 (rr_this_history_ring 16) cy (f26 16)), (wo_6_iiir (rq_this_history_ring 17) (f23 17) (f24 17) (f25 17) (rr_this_history_ring 17)), (wi_0_6_0 (rr_this_history_ring 17) cy (f26 17)), (wo_6_iiir (rq_this_history_ring 18) (f23 18) (f24 18) (f25 18) (rr_this_history_ring 18)), (wi_0_6_0 (rr_this_history_ring 18) cy (f26 18)), (wo_6_iiir (rq_this_history_ring 19) (f23 19) (f24 19) (f25 19) (rr_this_history_ring 19)), (wi_0_6_0 (rr_this_history_ring 19) cy (f26 19)), (wo_1_rri a_this_choice a_this_street a_this_choice_table 0), (wo_0_rrrri a_this_ahead a_this_street a_this_ahead_state a_this_ahead_told a_this_ahead_trusts 0), (wo_8_rrriiriiiii a_this_watch a_this_street a_this_watch_seenWalker a_this_watch_seenSecond x_this_watch_rows 0 a_this_watch_seconds x_this_watch_found x_this_watch_foundRules x_this_watch_foundGreen x_this_watch_chosen x_this_watch_chosenLeft)] H := hP
          replace hD := k_D hP hD
          refine lv_iconst (v := 1) hx hb dX9_green_40 rfl ?_
          subst hQ; exact k_iret hx hb hr hlk (k_nb 1 rfl) ((p0, v21, v22, 0, 0, 0, g_this_refusals, f23, f24, f25, f26)) hS ⟨ib_w 0 1 (ib_c 1 1 1 rfl) rfl, ib_w 0 19 h27 rfl, ib_w 0 20 h28 rfl, ib_w 0 1 (ib_c 0 0 0 rfl) rfl, ib_w 0 30 (ib_c 0 0 0 rfl) rfl, ib_w 0 1 (ib_c 0 0 0 rfl) rfl, fun _ => ib_w 2 120 h16 rfl, fun _ => ib_w 1 60 h17 rfl, (hO.symm.trans (by try simp only [show (1 : Int32).toInt = (1 : Int) from rfl]; try simp only [show (0 : Int32).toInt = (0 : Int) from rfl]; exact hq))⟩ (hP.sub [2, 1, 6, 3, 4, 5, 7, 8, 9, 10, 11, 12, 13, 14, 15, 16, 17, 18, 19, 20, 21, 22, 23, 24, 25, 26, 27, 28, 29, 30, 31, 32, 33, 34, 35, 36, 37, 38, 39, 40, 41, 42, 43, 44, 45, 46, 47, 48, 49, 0] rfl) (hD.sub [2, 1, 6, 3, 4, 5, 7, 8, 9, 10, 11, 12, 13, 14, 15, 16, 17, 18, 19, 20, 21, 22, 23, 24, 25, 26, 27, 28, 29, 30, 31, 32, 33, 34, 35, 36, 37, 38, 39, 40, 41, 42, 43, 44, 45, 46, 47, 48, 49, 0] (by decide +kernel) rfl) (Nat.le_of_ble_eq_true rfl) (Nat.le_of_ble_eq_true rfl) dX9_green_41
      · replace hq := lf_pos hq (lf_eq (lf_rf p0) (lf_rf x_this_now_green) c18)
        have h30 := ib_eq h17 (ib_any x_this_now_green) c18
        have h31 : ib x_this_now_green 1 60 := ib_w 1 60 h30.2 rfl
        exact jn22  H locs ls (by exact hq) (hP.sub [0, 49, 1, 2, 3, 4, 5, 6, 7, 8, 9, 10, 11, 12, 13, 14, 15, 16, 17, 18, 19, 20, 21, 22, 23, 24, 25, 26, 27, 28, 29, 30, 31, 32, 33, 34, 35, 36, 37, 38, 39, 40, 41, 42, 43, 44, 45, 46, 47, 48] rfl) (hD.sub [0, 49, 1, 2, 3, 4, 5, 6, 7, 8, 9, 10, 11, 12, 13, 14, 15, 16, 17, 18, 19, 20, 21, 22, 23, 24, 25, 26, 27, 28, 29, 30, 31, 32, 33, 34, 35, 36, 37, 38, 39, 40, 41, 42, 43, 44, 45, 46, 47, 48] (by decide +kernel) rfl) hS (lv_sub hl [0, 1] rfl)
set_option maxHeartbeats 4000000 in
set_option maxRecDepth 100000 in
theorem s_X9_has (l : Launch) (dC : Nat → ClassId) (dI : Nat → Nat → Nat) (cy : Nat → ClassId) (sq : Nat → Nat) (a_this : Nat) (a_this_tape : Nat) (x_this_tapeSize : Int32) (a_this_plan : Nat) (x_this_plan_cycle : Int32) (x_this_plan_green : Int32) (x_this_plan_rule : Int32) (x_this_plan_least : Int32) (x_this_plan_away : Int32) (x_this_plan_statements : Int32) (x_this_plan_kinds : Int32) (a_this_plan_calm : Nat) (a_this_plan_pace : Nat) (a_this_plan_trusts : Nat) (x_this_plan_walkers : Int32) (a_this_plan_kindOf : Nat) (a_this_plan_comesAt : Nat) (a_this_plan_comers : Nat) (a_this_plan_names : Nat) (a_this_plan_code : Nat) (x_this_plan_size : Int32) (a_this_plan_spans : Nat) (a_this_spare : Nat) (a_this_now : Nat) (x_this_now_day : Int32) (x_this_now_rule : Int32) (x_this_now_green : Int32) (a_this_now_trusts : Nat) (a_this_history : Nat) (a_this_history_ring : Nat) (x_this_history_next : Int32) (x_this_history_count : Int32) (a_this_machine : Nat) (a_this_reader : Nat) (a_this_street : Nat) (a_this_choice : Nat) (a_this_ahead : Nat) (a_this_watch : Nat) (a_this_watch_seenWalker : Nat) (a_this_watch_seenSecond : Nat) (x_this_watch_rows : Int32) (x_this_watch_compared : Int32) (a_this_watch_seconds : Nat) (x_this_watch_found : Int32) (x_this_watch_foundRules : Int32) (x_this_watch_foundGreen : Int32) (x_this_watch_chosen : Int32) (x_this_watch_chosenLeft : Int32) (a_this_octets : Nat) (x_this_octetCount : Int32) (a_this_refusals : Nat) (x_this_drawn : Int64) (p0 : Int32)  : k_Met l yX9_has cX9_has 2 (some .int) { frames := 0, cells := 0, slots := 0, locals := 0 } dC dI cy sq [.ref a_this, .int p0] [(wo_9_rirrrrrrrrrrrirl a_this a_this_tape x_this_tapeSize a_this_plan a_this_spare a_this_now a_this_history a_this_machine a_this_reader a_this_street a_this_choice a_this_ahead a_this_watch a_this_octets x_this_octetCount a_this_refusals x_this_drawn), (wo_4_iiiiiiirrrirrrrrir a_this_plan x_this_plan_cycle x_this_plan_green x_this_plan_rule x_this_plan_least x_this_plan_away x_this_plan_statements x_this_plan_kinds a_this_plan_calm a_this_plan_pace a_this_plan_trusts x_this_plan_walkers a_this_plan_kindOf a_this_plan_comesAt a_this_plan_comers a_this_plan_names a_this_plan_code x_this_plan_size a_this_plan_spans), (wo_6_iiir a_this_now x_this_now_day x_this_now_rule x_this_now_green a_this_now_trusts), (wo_8_rrriiriiiii a_this_watch a_this_street a_this_watch_seenWalker a_this_watch_seenSecond x_this_watch_rows x_this_watch_compared a_this_watch_seconds x_this_watch_found x_this_watch_foundRules x_this_watch_foundGreen x_this_watch_chosen x_this_watch_chosenLeft), (wo_2_rii a_this_history a_this_history_ring x_this_history_next x_this_history_count)] (k_Qi dC dI (fun (r : Int32) (_ : Unit) => (F_X9_has (Int32.toInt x_this_plan_cycle) (Int32.toInt x_this_plan_kinds) (Int32.toInt x_this_plan_walkers) (Int32.toInt x_this_now_day) (Int32.toInt x_this_now_rule) (Int32.toInt x_this_now_green) (Int32.toInt x_this_history_count) (Int32.toInt x_this_watch_rows) (Int32.toInt p0) = ((Int32.toInt r)))) (fun _ : Unit => [(wo_9_rirrrrrrrrrrrirl a_this a_this_tape x_this_tapeSize a_this_plan a_this_spare a_this_now a_this_history a_this_machine a_this_reader a_this_street a_this_choice a_this_ahead a_this_watch a_this_octets x_this_octetCount a_this_refusals x_this_drawn), (wo_4_iiiiiiirrrirrrrrir a_this_plan x_this_plan_cycle x_this_plan_green x_this_plan_rule x_this_plan_least x_this_plan_away x_this_plan_statements x_this_plan_kinds a_this_plan_calm a_this_plan_pace a_this_plan_trusts x_this_plan_walkers a_this_plan_kindOf a_this_plan_comesAt a_this_plan_comers a_this_plan_names a_this_plan_code x_this_plan_size a_this_plan_spans), (wo_6_iiir a_this_now x_this_now_day x_this_now_rule x_this_now_green a_this_now_trusts), (wo_8_rrriiriiiii a_this_watch a_this_street a_this_watch_seenWalker a_this_watch_seenSecond x_this_watch_rows x_this_watch_compared a_this_watch_seconds x_this_watch_found x_this_watch_foundRules x_this_watch_foundGreen x_this_watch_chosen x_this_watch_chosenLeft), (wo_2_rii a_this_history a_this_history_ring x_this_history_next x_this_history_count)])) := by
  refine k_ofW2 (by decide +kernel) (Nat.le_of_ble_eq_true rfl) ?_
  intro p e s m below meth c A ls H locs args Q hQ C0 hZ hr hlk hin hP hD hA hS hl
  have C0 : k_cx p s m args c cX9_has 2 RX9 dC dI cy sq := C0
  have hx := C0.1
  have hb := C0.2.1
  have hl : lv_has ls 2 [(0, .ref a_this), (1, .int p0)] := hl
  obtain ⟨O, hO⟩ : ∃ o, o = F_X9_has (Int32.toInt x_this_plan_cycle) (Int32.toInt x_this_plan_kinds) (Int32.toInt x_this_plan_walkers) (Int32.toInt x_this_now_day) (Int32.toInt x_this_now_rule) (Int32.toInt x_this_now_green) (Int32.toInt x_this_history_count) (Int32.toInt x_this_watch_rows) (Int32.toInt p0) := ⟨_, rfl⟩
  have hq := hO
  unfold F_X9_has at hq
  refine lv_iload_n hx hb dX9_has_0 rfl (lv_at hl 1 rfl) ?_
  rcases Decidable.em (p0 = 0) with s1_0 | s1_0
  · skip
    replace hq := lf_pos hq (lf_eq (lf_rf p0) (lf_lc 0 (0 : Int) rfl) s1_0)
    have h2 : ib p0 0 0 := by rw [s1_0]; exact ib_c 0 0 0 rfl
    refine lv_tableIn (off := 47) (tgt := 48) hx hb dX9_has_1 (by rw [s1_0]; decide) (by rw [s1_0]; decide) (by rw [s1_0]; decide) (by decide) ?_
    refine lv_aload_n hx hb dX9_has_48 rfl (lv_at hl 0 rfl) ?_
    refine k_get C0 fg_X9_20 hP 0 rfl rfl dX9_has_49 ?_
    refine k_get C0 fg_X9_145 hP 1 rfl rfl dX9_has_52 ?_
    subst hQ; exact k_iret hx hb hr hlk rfl () hS ((hO.symm.trans (by exact hq))) hP hD (Nat.le_of_ble_eq_true rfl) (Nat.le_of_ble_eq_true rfl) dX9_has_55
  replace hq := lf_neg hq (lf_ne (lf_rf p0) (lf_lc 0 (0 : Int) rfl) s1_0)
  rcases Decidable.em (p0 = 1) with s1_1 | s1_1
  · skip
    replace hq := lf_pos hq (lf_eq (lf_rf p0) (lf_lc 1 (1 : Int) rfl) s1_1)
    have h3 : ib p0 1 1 := by rw [s1_1]; exact ib_c 1 1 1 rfl
    refine lv_tableIn (off := 55) (tgt := 56) hx hb dX9_has_1 (by rw [s1_1]; decide) (by rw [s1_1]; decide) (by rw [s1_1]; decide) (by decide) ?_
    refine lv_aload_n hx hb dX9_has_56 rfl (lv_at hl 0 rfl) ?_
    refine k_get C0 fg_X9_20 hP 0 rfl rfl dX9_has_57 ?_
    refine k_get C0 fg_X9_148 hP 1 rfl rfl dX9_has_60 ?_
    subst hQ; exact k_iret hx hb hr hlk rfl () hS ((hO.symm.trans (by exact hq))) hP hD (Nat.le_of_ble_eq_true rfl) (Nat.le_of_ble_eq_true rfl) dX9_has_63
  replace hq := lf_neg hq (lf_ne (lf_rf p0) (lf_lc 1 (1 : Int) rfl) s1_1)
  rcases Decidable.em (p0 = 2) with s1_2 | s1_2
  · skip
    replace hq := lf_pos hq (lf_eq (lf_rf p0) (lf_lc 2 (2 : Int) rfl) s1_2)
    have h4 : ib p0 2 2 := by rw [s1_2]; exact ib_c 2 2 2 rfl
    refine lv_tableIn (off := 63) (tgt := 64) hx hb dX9_has_1 (by rw [s1_2]; decide) (by rw [s1_2]; decide) (by rw [s1_2]; decide) (by decide) ?_
    refine lv_aload_n hx hb dX9_has_64 rfl (lv_at hl 0 rfl) ?_
    refine k_get C0 fg_X9_20 hP 0 rfl rfl dX9_has_65 ?_
    refine k_get C0 fg_X9_151 hP 1 rfl rfl dX9_has_68 ?_
    subst hQ; exact k_iret hx hb hr hlk rfl () hS ((hO.symm.trans (by exact hq))) hP hD (Nat.le_of_ble_eq_true rfl) (Nat.le_of_ble_eq_true rfl) dX9_has_71
  replace hq := lf_neg hq (lf_ne (lf_rf p0) (lf_lc 2 (2 : Int) rfl) s1_2)
  rcases Decidable.em (p0 = 3) with s1_3 | s1_3
  · skip
    replace hq := lf_pos hq (lf_eq (lf_rf p0) (lf_lc 3 (3 : Int) rfl) s1_3)
    have h5 : ib p0 3 3 := by rw [s1_3]; exact ib_c 3 3 3 rfl
    refine lv_tableIn (off := 71) (tgt := 72) hx hb dX9_has_1 (by rw [s1_3]; decide) (by rw [s1_3]; decide) (by rw [s1_3]; decide) (by decide) ?_
    refine lv_aload_n hx hb dX9_has_72 rfl (lv_at hl 0 rfl) ?_
    refine k_get C0 fg_X9_30 hP 0 rfl rfl dX9_has_73 ?_
    refine k_get C0 fg_X9_154 hP 2 rfl rfl dX9_has_76 ?_
    subst hQ; exact k_iret hx hb hr hlk rfl () hS ((hO.symm.trans (by exact hq))) hP hD (Nat.le_of_ble_eq_true rfl) (Nat.le_of_ble_eq_true rfl) dX9_has_79
  replace hq := lf_neg hq (lf_ne (lf_rf p0) (lf_lc 3 (3 : Int) rfl) s1_3)
  rcases Decidable.em (p0 = 4) with s1_4 | s1_4
  · skip
    replace hq := lf_pos hq (lf_eq (lf_rf p0) (lf_lc 4 (4 : Int) rfl) s1_4)
    have h6 : ib p0 4 4 := by rw [s1_4]; exact ib_c 4 4 4 rfl
    refine lv_tableIn (off := 79) (tgt := 80) hx hb dX9_has_1 (by rw [s1_4]; decide) (by rw [s1_4]; decide) (by rw [s1_4]; decide) (by decide) ?_
    refine lv_aload_n hx hb dX9_has_80 rfl (lv_at hl 0 rfl) ?_
    refine k_get C0 fg_X9_30 hP 0 rfl rfl dX9_has_81 ?_
    refine k_get C0 fg_X9_157 hP 2 rfl rfl dX9_has_84 ?_
    subst hQ; exact k_iret hx hb hr hlk rfl () hS ((hO.symm.trans (by exact hq))) hP hD (Nat.le_of_ble_eq_true rfl) (Nat.le_of_ble_eq_true rfl) dX9_has_87
  replace hq := lf_neg hq (lf_ne (lf_rf p0) (lf_lc 4 (4 : Int) rfl) s1_4)
  rcases Decidable.em (p0 = 5) with s1_5 | s1_5
  · skip
    replace hq := lf_pos hq (lf_eq (lf_rf p0) (lf_lc 5 (5 : Int) rfl) s1_5)
    have h7 : ib p0 5 5 := by rw [s1_5]; exact ib_c 5 5 5 rfl
    refine lv_tableIn (off := 87) (tgt := 88) hx hb dX9_has_1 (by rw [s1_5]; decide) (by rw [s1_5]; decide) (by rw [s1_5]; decide) (by decide) ?_
    refine lv_aload_n hx hb dX9_has_88 rfl (lv_at hl 0 rfl) ?_
    refine k_get C0 fg_X9_30 hP 0 rfl rfl dX9_has_89 ?_
    refine k_get C0 fg_X9_160 hP 2 rfl rfl dX9_has_92 ?_
    subst hQ; exact k_iret hx hb hr hlk rfl () hS ((hO.symm.trans (by exact hq))) hP hD (Nat.le_of_ble_eq_true rfl) (Nat.le_of_ble_eq_true rfl) dX9_has_95
  replace hq := lf_neg hq (lf_ne (lf_rf p0) (lf_lc 5 (5 : Int) rfl) s1_5)
  rcases Decidable.em (p0 = 6) with s1_6 | s1_6
  · skip
    replace hq := lf_pos hq (lf_eq (lf_rf p0) (lf_lc 6 (6 : Int) rfl) s1_6)
    have h8 : ib p0 6 6 := by rw [s1_6]; exact ib_c 6 6 6 rfl
    refine lv_tableIn (off := 95) (tgt := 96) hx hb dX9_has_1 (by rw [s1_6]; decide) (by rw [s1_6]; decide) (by rw [s1_6]; decide) (by decide) ?_
    refine lv_aload_n hx hb dX9_has_96 rfl (lv_at hl 0 rfl) ?_
    refine k_get C0 fg_X9_85 hP 0 rfl rfl dX9_has_97 ?_
    refine k_get C0 fg_X9_163 hP 3 rfl rfl dX9_has_100 ?_
    subst hQ; exact k_iret hx hb hr hlk rfl () hS ((hO.symm.trans (by exact hq))) hP hD (Nat.le_of_ble_eq_true rfl) (Nat.le_of_ble_eq_true rfl) dX9_has_103
  replace hq := lf_neg hq (lf_ne (lf_rf p0) (lf_lc 6 (6 : Int) rfl) s1_6)
  rcases Decidable.em (p0 = 7) with s1_7 | s1_7
  · skip
    replace hq := lf_pos hq (lf_eq (lf_rf p0) (lf_lc 7 (7 : Int) rfl) s1_7)
    have h9 : ib p0 7 7 := by rw [s1_7]; exact ib_c 7 7 7 rfl
    refine lv_tableIn (off := 103) (tgt := 104) hx hb dX9_has_1 (by rw [s1_7]; decide) (by rw [s1_7]; decide) (by rw [s1_7]; decide) (by decide) ?_
    refine lv_aload_n hx hb dX9_has_104 rfl (lv_at hl 0 rfl) ?_
    refine k_get C0 fg_X9_37 hP 0 rfl rfl dX9_has_105 ?_
    refine k_get C0 fg_X9_166 hP 4 rfl rfl dX9_has_108 ?_
    subst hQ; exact k_iret hx hb hr hlk rfl () hS ((hO.symm.trans (by exact hq))) hP hD (Nat.le_of_ble_eq_true rfl) (Nat.le_of_ble_eq_true rfl) dX9_has_111
  replace hq := lf_neg hq (lf_ne (lf_rf p0) (lf_lc 7 (7 : Int) rfl) s1_7)
  refine lv_tableOut (tgt := 112) hx hb dX9_has_1 (by have q0 := ib_nei 0 0 rfl s1_0; have q1 := ib_nei 1 1 rfl s1_1; have q2 := ib_nei 2 2 rfl s1_2; have q3 := ib_nei 3 3 rfl s1_3; have q4 := ib_nei 4 4 rfl s1_4; have q5 := ib_nei 5 5 rfl s1_5; have q6 := ib_nei 6 6 rfl s1_6; have q7 := ib_nei 7 7 rfl s1_7; omega) (by decide) ?_
  refine lv_iconst (v := (-1)) hx hb dX9_has_112 rfl ?_
  subst hQ; exact k_iret hx hb hr hlk rfl () hS ((hO.symm.trans (by try simp only [show ((-1) : Int32).toInt = (-1 : Int) from rfl]; exact hq))) hP hD (Nat.le_of_ble_eq_true rfl) (Nat.le_of_ble_eq_true rfl) dX9_has_113
set_option maxHeartbeats 4000000 in
set_option maxRecDepth 100000 in
theorem s_X9_hold (l : Launch) (dC : Nat → ClassId) (dI : Nat → Nat → Nat) (cy : Nat → ClassId) (sq : Nat → Nat) (a_this : Nat) (a_this_tape : Nat) (x_this_tapeSize : Int32) (a_this_plan : Nat) (x_this_plan_cycle : Int32) (x_this_plan_green : Int32) (x_this_plan_rule : Int32) (x_this_plan_least : Int32) (x_this_plan_away : Int32) (x_this_plan_statements : Int32) (x_this_plan_kinds : Int32) (a_this_plan_calm : Nat) (g_this_plan_calm : Nat → Int32) (a_this_plan_pace : Nat) (g_this_plan_pace : Nat → Int32) (a_this_plan_trusts : Nat) (x_this_plan_walkers : Int32) (a_this_plan_kindOf : Nat) (g_this_plan_kindOf : Nat → Int32) (a_this_plan_comesAt : Nat) (g_this_plan_comesAt : Nat → Int32) (a_this_plan_comers : Nat) (g_this_plan_comers : Nat → Int32) (a_this_plan_names : Nat) (a_this_plan_code : Nat) (g_this_plan_code : Nat → Int32) (x_this_plan_size : Int32) (a_this_plan_spans : Nat) (g_this_plan_spans : Nat → Int32) (a_this_spare : Nat) (a_this_now : Nat) (x_this_now_day : Int32) (x_this_now_rule : Int32) (x_this_now_green : Int32) (a_this_now_trusts : Nat) (g_this_now_trusts : Nat → Int32) (a_this_history : Nat) (a_this_machine : Nat) (a_this_machine_facts : Nat) (g_this_machine_facts : Nat → Int32) (a_this_machine_stack : Nat) (g_this_machine_stack : Nat → Int32) (a_this_reader : Nat) (a_this_street : Nat) (x_this_street_day : Int32) (a_this_street_trusts : Nat) (g_this_street_trusts : Nat → Int32) (x_this_street_rule : Int32) (x_this_street_green : Int32) (x_this_street_absent : Int32) (x_this_street_asksReds : Int32) (a_this_street_cars : Nat) (g_this_street_cars : Nat → Int32) (a_this_street_gaps : Nat) (g_this_street_gaps : Nat → Int32) (a_this_street_known : Nat) (g_this_street_known : Nat → Int32) (a_this_street_left : Nat) (g_this_street_left : Nat → Int32) (a_this_street_leaves : Nat) (g_this_street_leaves : Nat → Int32) (x_this_street_pressed : Int32) (x_this_street_crossed : Int32) (x_this_street_went : Int32) (x_this_street_harmed : Int32) (a_this_choice : Nat) (a_this_choice_table : Nat) (x_this_choice_tableKnown : Int32) (a_this_ahead : Nat) (a_this_watch : Nat) (a_this_octets : Nat) (x_this_octetCount : Int32) (a_this_refusals : Nat) (x_this_drawn : Int64) (hx_this_plan_cycle : ib x_this_plan_cycle 0 120) (hx_this_plan_least : ib x_this_plan_least 0 99) (hx_this_plan_kinds : ib x_this_plan_kinds 0 6) (hx_this_plan_walkers : ib x_this_plan_walkers 0 12) (hg_this_plan_kindOf : ia g_this_plan_kindOf 12 0 5) (hg_this_plan_comesAt : ia g_this_plan_comesAt 12 0 199) (hg_this_plan_spans : ia g_this_plan_spans 6 0 1600) (hx_this_street_asksReds : ib x_this_street_asksReds 0 1) : k_Met l yX9_hold cX9_hold 1 (some .int) { frames := 7, cells := 0, slots := 0, locals := 169 } dC dI cy sq [.ref a_this] [(wo_9_rirrrrrrrrrrrirl a_this a_this_tape x_this_tapeSize a_this_plan a_this_spare a_this_now a_this_history a_this_machine a_this_reader a_this_street a_this_choice a_this_ahead a_this_watch a_this_octets x_this_octetCount a_this_refusals x_this_drawn), (wo_4_iiiiiiirrrirrrrrir a_this_plan x_this_plan_cycle x_this_plan_green x_this_plan_rule x_this_plan_least x_this_plan_away x_this_plan_statements x_this_plan_kinds a_this_plan_calm a_this_plan_pace a_this_plan_trusts x_this_plan_walkers a_this_plan_kindOf a_this_plan_comesAt a_this_plan_comers a_this_plan_names a_this_plan_code x_this_plan_size a_this_plan_spans), (wo_6_iiir a_this_now x_this_now_day x_this_now_rule x_this_now_green a_this_now_trusts), (wo_7_rririiiirrrrriiii a_this_street a_this_machine a_this_plan x_this_street_day a_this_street_trusts x_this_street_rule x_this_street_green x_this_street_absent x_this_street_asksReds a_this_street_cars a_this_street_gaps a_this_street_known a_this_street_left a_this_street_leaves x_this_street_pressed x_this_street_crossed x_this_street_went x_this_street_harmed), (wo_3_rr a_this_machine a_this_machine_facts a_this_machine_stack), (wi_0_13_0 a_this_machine_facts cy g_this_machine_facts), (wi_0_6_0 a_this_plan_spans cy g_this_plan_spans), (wi_0_1600_0 a_this_plan_code cy g_this_plan_code), (wi_0_64_0 a_this_machine_stack cy g_this_machine_stack), (wi_0_320_0 a_this_street_cars cy g_this_street_cars), (wi_0_320_0 a_this_street_gaps cy g_this_street_gaps), (wi_0_6_0 a_this_street_trusts cy g_this_street_trusts), (wi_0_6_0 a_this_now_trusts cy g_this_now_trusts), (wi_0_3600_0 a_this_street_known cy g_this_street_known), (wi_0_12_0 a_this_plan_kindOf cy g_this_plan_kindOf), (wi_0_200_0 a_this_plan_comers cy g_this_plan_comers), (wi_0_300_0 a_this_street_left cy g_this_street_left), (wi_0_12_0 a_this_street_leaves cy g_this_street_leaves), (wi_0_6_0 a_this_plan_pace cy g_this_plan_pace), (wi_0_12_0 a_this_plan_comesAt cy g_this_plan_comesAt), (wi_0_6_0 a_this_plan_calm cy g_this_plan_calm), (wo_1_rri a_this_choice a_this_street a_this_choice_table x_this_choice_tableKnown)] (k_Qi dC dI (fun (r : Int32) (u : Int32 × Int32 × Int32 × Int32 × Int32 × Int32 × Int32 × Int32 × (Nat → Int32) × (Nat → Int32) × (Nat → Int32) × (Nat → Int32) × (Nat → Int32) × (Nat → Int32) × (Nat → Int32) × (Nat → Int32)) => match u with | (n0, n1, n2, n3, n4, n5, n6, n7, n8, n9, n10, n11, n12, n13, n14, n15) => (F_X9_hold (Int32.toInt x_this_plan_cycle) (Int32.toInt x_this_plan_least) (Int32.toInt x_this_plan_kinds) (lf_A g_this_plan_calm) (lf_A g_this_plan_pace) (Int32.toInt x_this_plan_walkers) (lf_A g_this_plan_kindOf) (lf_A g_this_plan_comesAt) (lf_A g_this_plan_comers) (lf_A g_this_plan_code) (lf_A g_this_plan_spans) (Int32.toInt x_this_now_day) (Int32.toInt x_this_now_rule) (Int32.toInt x_this_now_green) (lf_A g_this_now_trusts) (lf_A g_this_machine_facts) (lf_A g_this_machine_stack) (Int32.toInt x_this_street_day) (lf_A g_this_street_trusts) (Int32.toInt x_this_street_rule) (Int32.toInt x_this_street_green) (Int32.toInt x_this_street_absent) (Int32.toInt x_this_street_asksReds) (lf_A g_this_street_cars) (lf_A g_this_street_gaps) (lf_A g_this_street_known) (lf_A g_this_street_left) (lf_A g_this_street_leaves) (Int32.toInt x_this_street_pressed) (Int32.toInt x_this_street_crossed) (Int32.toInt x_this_street_went) (Int32.toInt x_this_street_harmed) = ((Int32.toInt r), (Int32.toInt n0), (Int32.toInt n1), (Int32.toInt n2), (Int32.toInt n3), (Int32.toInt n4), (Int32.toInt n5), (Int32.toInt n6), (Int32.toInt n7), (lf_A n8), (lf_A n9), (lf_A n10), (lf_A n11), (lf_A n12), (lf_A n13), (lf_A n14), (lf_A n15)))) (fun u : Int32 × Int32 × Int32 × Int32 × Int32 × Int32 × Int32 × Int32 × (Nat → Int32) × (Nat → Int32) × (Nat → Int32) × (Nat → Int32) × (Nat → Int32) × (Nat → Int32) × (Nat → Int32) × (Nat → Int32) => match u with | (n0, n1, n2, n3, n4, n5, n6, n7, n8, n9, n10, n11, n12, n13, n14, n15) => [(wo_9_rirrrrrrrrrrrirl a_this a_this_tape x_this_tapeSize a_this_plan a_this_spare a_this_now a_this_history a_this_machine a_this_reader a_this_street a_this_choice a_this_ahead a_this_watch a_this_octets x_this_octetCount a_this_refusals x_this_drawn), (wo_4_iiiiiiirrrirrrrrir a_this_plan x_this_plan_cycle x_this_plan_green x_this_plan_rule x_this_plan_least x_this_plan_away x_this_plan_statements x_this_plan_kinds a_this_plan_calm a_this_plan_pace a_this_plan_trusts x_this_plan_walkers a_this_plan_kindOf a_this_plan_comesAt a_this_plan_comers a_this_plan_names a_this_plan_code x_this_plan_size a_this_plan_spans), (wo_6_iiir a_this_now x_this_now_day x_this_now_rule x_this_now_green a_this_now_trusts), (wo_7_rririiiirrrrriiii a_this_street a_this_machine a_this_plan n0 a_this_street_trusts n1 n2 n3 x_this_street_asksReds a_this_street_cars a_this_street_gaps a_this_street_known a_this_street_left a_this_street_leaves n4 n5 n6 n7), (wo_3_rr a_this_machine a_this_machine_facts a_this_machine_stack), (wi_0_13_0 a_this_machine_facts cy n8), (wi_0_6_0 a_this_plan_spans cy g_this_plan_spans), (wi_0_1600_0 a_this_plan_code cy g_this_plan_code), (wi_0_64_0 a_this_machine_stack cy n9), (wi_0_320_0 a_this_street_cars cy n10), (wi_0_320_0 a_this_street_gaps cy n11), (wi_0_6_0 a_this_street_trusts cy n12), (wi_0_6_0 a_this_now_trusts cy g_this_now_trusts), (wi_0_3600_0 a_this_street_known cy n13), (wi_0_12_0 a_this_plan_kindOf cy g_this_plan_kindOf), (wi_0_200_0 a_this_plan_comers cy g_this_plan_comers), (wi_0_300_0 a_this_street_left cy n14), (wi_0_12_0 a_this_street_leaves cy n15), (wi_0_6_0 a_this_plan_pace cy g_this_plan_pace), (wi_0_12_0 a_this_plan_comesAt cy g_this_plan_comesAt), (wi_0_6_0 a_this_plan_calm cy g_this_plan_calm), (wo_1_rri a_this_choice a_this_street a_this_choice_table x_this_choice_tableKnown)])) := by
  refine k_ofW2 (by decide +kernel) (Nat.le_of_ble_eq_true rfl) ?_
  intro p e s m below meth c A ls H locs args Q hQ C0 hZ hr hlk hin hP hD hA hS hl
  have C0 : k_cx p s m args c cX9_hold 1 RX9 dC dI cy sq := C0
  have hx := C0.1
  have hb := C0.2.1
  have hl : lv_has ls 1 [(0, .ref a_this)] := hl
  obtain ⟨O, hO⟩ : ∃ o, o = F_X9_hold (Int32.toInt x_this_plan_cycle) (Int32.toInt x_this_plan_least) (Int32.toInt x_this_plan_kinds) (lf_A g_this_plan_calm) (lf_A g_this_plan_pace) (Int32.toInt x_this_plan_walkers) (lf_A g_this_plan_kindOf) (lf_A g_this_plan_comesAt) (lf_A g_this_plan_comers) (lf_A g_this_plan_code) (lf_A g_this_plan_spans) (Int32.toInt x_this_now_day) (Int32.toInt x_this_now_rule) (Int32.toInt x_this_now_green) (lf_A g_this_now_trusts) (lf_A g_this_machine_facts) (lf_A g_this_machine_stack) (Int32.toInt x_this_street_day) (lf_A g_this_street_trusts) (Int32.toInt x_this_street_rule) (Int32.toInt x_this_street_green) (Int32.toInt x_this_street_absent) (Int32.toInt x_this_street_asksReds) (lf_A g_this_street_cars) (lf_A g_this_street_gaps) (lf_A g_this_street_known) (lf_A g_this_street_left) (lf_A g_this_street_leaves) (Int32.toInt x_this_street_pressed) (Int32.toInt x_this_street_crossed) (Int32.toInt x_this_street_went) (Int32.toInt x_this_street_harmed) := ⟨_, rfl⟩
  have hq := hO
  unfold F_X9_hold at hq
  refine lv_aload_n hx hb dX9_hold_0 rfl (lv_at hl 0 rfl) ?_
  refine k_jim hP hD hS hA [0, 1] [false, false, true, true, true, true, true, true, true, true, true, true, true, true, true, true, true, true, true, true, true, true] rfl rfl (by decide +kernel) 0 0 (Nat.le_of_ble_eq_true rfl) (Nat.le_of_ble_eq_true rfl) (fun hPc hDc => k_runV (As := []) (rest := []) C0 hZ hS hA (s_X9_stands l dC dI cy sq a_this a_this_tape x_this_tapeSize a_this_plan x_this_plan_cycle x_this_plan_green x_this_plan_rule x_this_plan_least x_this_plan_away x_this_plan_statements x_this_plan_kinds a_this_plan_calm a_this_plan_pace a_this_plan_trusts x_this_plan_walkers a_this_plan_kindOf a_this_plan_comesAt a_this_plan_comers a_this_plan_names a_this_plan_code x_this_plan_size a_this_plan_spans a_this_spare a_this_now a_this_history a_this_machine a_this_reader a_this_street a_this_choice a_this_ahead a_this_watch a_this_octets x_this_octetCount a_this_refusals x_this_drawn (ib_w 0 120 hx_this_plan_cycle rfl)) mV_X9_218 hPc hDc rfl rfl rfl hl rfl rfl (Nat.le_of_ble_eq_true rfl) ⟨(Nat.le_of_ble_eq_true rfl), (Nat.le_of_ble_eq_true rfl)⟩ ⟨(Nat.le_of_ble_eq_true rfl), (Nat.le_of_ble_eq_true rfl)⟩ dX9_hold_1) (fun r1 u2 H locs hw hP hD hS => ?_)
  try dsimp only at hP hD hw
  replace hP : va_P (dC, dI) vwCl [(wo_6_iiir a_this_now x_this_now_day x_this_now_rule x_this_now_green a_this_now_trusts), (wo_7_rririiiirrrrriiii a_this_street a_this_machine a_this_plan x_this_street_day a_this_street_trusts x_this_street_rule x_this_street_green x_this_street_absent x_this_street_asksReds a_this_street_cars a_this_street_gaps a_this_street_known a_this_street_left a_this_street_leaves x_this_street_pressed x_this_street_crossed x_this_street_went x_this_street_harmed), (wo_3_rr a_this_machine a_this_machine_facts a_this_machine_stack), (wi_0_13_0 a_this_machine_facts cy g_this_machine_facts), (wi_0_6_0 a_this_plan_spans cy g_this_plan_spans), (wi_0_1600_0 a_this_plan_code cy g_this_plan_code), (wi_0_64_0 a_this_machine_stack cy g_this_machine_stack), (wi_0_320_0 a_this_street_cars cy g_this_street_cars), (wi_0_320_0 a_this_street_gaps cy g_this_street_gaps), (wi_0_6_0 a_this_street_trusts cy g_this_street_trusts), (wi_0_6_0 a_this_now_trusts cy g_this_now_trusts), (wi_0_3600_0 a_this_street_known cy g_this_street_known), (wi_0_12_0 a_this_plan_kindOf cy g_this_plan_kindOf), (wi_0_200_0 a_this_plan_comers cy g_this_plan_comers), (wi_0_300_0 a_this_street_left cy g_this_street_left), (wi_0_12_0 a_this_street_leaves cy g_this_street_leaves), (wi_0_6_0 a_this_plan_pace cy g_this_plan_pace), (wi_0_12_0 a_this_plan_comesAt cy g_this_plan_comesAt), (wi_0_6_0 a_this_plan_calm cy g_this_plan_calm), (wo_1_rri a_this_choice a_this_street a_this_choice_table x_this_choice_tableKnown), (wo_9_rirrrrrrrrrrrirl a_this a_this_tape x_this_tapeSize a_this_plan a_this_spare a_this_now a_this_history a_this_machine a_this_reader a_this_street a_this_choice a_this_ahead a_this_watch a_this_octets x_this_octetCount a_this_refusals x_this_drawn), (wo_4_iiiiiiirrrirrrrrir a_this_plan x_this_plan_cycle x_this_plan_green x_this_plan_rule x_this_plan_least x_this_plan_away x_this_plan_statements x_this_plan_kinds a_this_plan_calm a_this_plan_pace a_this_plan_trusts x_this_plan_walkers a_this_plan_kindOf a_this_plan_comesAt a_this_plan_comers a_this_plan_names a_this_plan_code x_this_plan_size a_this_plan_spans)] H := hP
  replace hD := k_D hP hD
  obtain ⟨h3, h4, h5⟩ := hw
  replace hq := lf_b1 hq h5
  refine lv_if_ne (tgt := 9) hx hb dX9_hold_4 rfl (fun c6 => ?_) (fun c6 => ?_)
  · replace hq := lf_neg hq (lf_ne (lf_rf r1) (lf_lc 0 (0 : Int) rfl) c6)
    have h7 : ib r1 1 1 := ib_w 1 1 (ib_ne_lo 0 h3 rfl c6) rfl
    have h8 : ib x_this_plan_cycle 1 120 := ib_w 1 120 (ib_two hx_this_plan_cycle (h4 c6)) rfl
    refine lv_aload_n hx hb dX9_hold_9 rfl (lv_at hl 0 rfl) ?_
    refine k_jvm hP hD hS hA [20, 0, 1, 21, 2, 3, 4, 5, 6, 7, 8, 9, 10, 11, 12, 13, 14, 15, 16, 17, 18] [false, false, false, false, false, false, false, false, false, false, false, false, false, false, false, false, false, false, false, true] rfl rfl (by decide +kernel) 0 0 (Nat.le_of_ble_eq_true rfl) (Nat.le_of_ble_eq_true rfl) (fun hPc hDc => k_runV (As := []) (rest := []) C0 hZ hS hA (s_X9_layToday l dC dI cy sq a_this a_this_tape x_this_tapeSize a_this_plan x_this_plan_cycle x_this_plan_green x_this_plan_rule x_this_plan_least x_this_plan_away x_this_plan_statements x_this_plan_kinds a_this_plan_calm g_this_plan_calm a_this_plan_pace g_this_plan_pace a_this_plan_trusts x_this_plan_walkers a_this_plan_kindOf g_this_plan_kindOf a_this_plan_comesAt g_this_plan_comesAt a_this_plan_comers g_this_plan_comers a_this_plan_names a_this_plan_code g_this_plan_code x_this_plan_size a_this_plan_spans g_this_plan_spans a_this_spare a_this_now x_this_now_day x_this_now_rule x_this_now_green a_this_now_trusts g_this_now_trusts a_this_history a_this_machine a_this_machine_facts g_this_machine_facts a_this_machine_stack g_this_machine_stack a_this_reader a_this_street x_this_street_day a_this_street_trusts g_this_street_trusts x_this_street_rule x_this_street_green x_this_street_absent x_this_street_asksReds a_this_street_cars g_this_street_cars a_this_street_gaps g_this_street_gaps a_this_street_known g_this_street_known a_this_street_left g_this_street_left a_this_street_leaves g_this_street_leaves x_this_street_pressed x_this_street_crossed x_this_street_went x_this_street_harmed a_this_choice a_this_ahead a_this_watch a_this_octets x_this_octetCount a_this_refusals x_this_drawn (ib_w 0 120 h8 rfl) (ib_w 0 99 hx_this_plan_least rfl) (ib_w 0 6 hx_this_plan_kinds rfl) (ib_w 0 12 hx_this_plan_walkers rfl) hg_this_plan_kindOf hg_this_plan_comesAt hg_this_plan_spans (ib_w 0 1 hx_this_street_asksReds rfl)) mV_X9_190 hPc hDc rfl rfl rfl hl rfl rfl (Nat.le_of_ble_eq_true rfl) ⟨(Nat.le_of_ble_eq_true rfl), (Nat.le_of_ble_eq_true rfl)⟩ ⟨(Nat.le_of_ble_eq_true rfl), (Nat.le_of_ble_eq_true rfl)⟩ dX9_hold_10) (fun u10 H locs hw hP hD hS => ?_)
    obtain ⟨v11, v12, v13, v14, v15, v16, v17, v18, f19, f20, f21, f22, f23, f24, f25, f26⟩ := u10
    try dsimp only at hP hD hw
    replace hP : va_P (dC, dI) vwCl [(wo_1_rri a_this_choice a_this_street a_this_choice_table x_this_choice_tableKnown), (wo_9_rirrrrrrrrrrrirl a_this a_this_tape x_this_tapeSize a_this_plan a_this_spare a_this_now a_this_history a_this_machine a_this_reader a_this_street a_this_choice a_this_ahead a_this_watch a_this_octets x_this_octetCount a_this_refusals x_this_drawn), (wo_6_iiir a_this_now x_this_now_day x_this_now_rule x_this_now_green a_this_now_trusts), (wo_7_rririiiirrrrriiii a_this_street a_this_machine a_this_plan v11 a_this_street_trusts v12 v13 v14 x_this_street_asksReds a_this_street_cars a_this_street_gaps a_this_street_known a_this_street_left a_this_street_leaves v15 v16 v17 v18), (wo_4_iiiiiiirrrirrrrrir a_this_plan x_this_plan_cycle x_this_plan_green x_this_plan_rule x_this_plan_least x_this_plan_away x_this_plan_statements x_this_plan_kinds a_this_plan_calm a_this_plan_pace a_this_plan_trusts x_this_plan_walkers a_this_plan_kindOf a_this_plan_comesAt a_this_plan_comers a_this_plan_names a_this_plan_code x_this_plan_size a_this_plan_spans), (wo_3_rr a_this_machine a_this_machine_facts a_this_machine_stack), (wi_0_13_0 a_this_machine_facts cy f19), (wi_0_6_0 a_this_plan_spans cy g_this_plan_spans), (wi_0_1600_0 a_this_plan_code cy g_this_plan_code), (wi_0_64_0 a_this_machine_stack cy f20), (wi_0_320_0 a_this_street_cars cy f21), (wi_0_320_0 a_this_street_gaps cy f22), (wi_0_6_0 a_this_street_trusts cy f23), (wi_0_6_0 a_this_now_trusts cy g_this_now_trusts), (wi_0_3600_0 a_this_street_known cy f24), (wi_0_12_0 a_this_plan_kindOf cy g_this_plan_kindOf), (wi_0_200_0 a_this_plan_comers cy g_this_plan_comers), (wi_0_300_0 a_this_street_left cy f25), (wi_0_12_0 a_this_street_leaves cy f26), (wi_0_6_0 a_this_plan_pace cy g_this_plan_pace), (wi_0_12_0 a_this_plan_comesAt cy g_this_plan_comesAt), (wi_0_6_0 a_this_plan_calm cy g_this_plan_calm)] H := hP
    replace hD := k_D hP hD
    have h27 := hw
    replace hq := lf_p1 hq h27
    replace hq := lf_p1 hq rfl
    replace hq := lf_p1 hq rfl
    replace hq := lf_p1 hq rfl
    replace hq := lf_p1 hq rfl
    replace hq := lf_p1 hq rfl
    replace hq := lf_p1 hq rfl
    replace hq := lf_p1 hq rfl
    replace hq := lf_p1 hq rfl
    replace hq := lf_p1 hq rfl
    replace hq := lf_p1 hq rfl
    replace hq := lf_p1 hq rfl
    replace hq := lf_p1 hq rfl
    replace hq := lf_p1 hq rfl
    replace hq := lf_p1 hq rfl
    refine lv_aload_n hx hb dX9_hold_13 rfl (lv_at hl 0 rfl) ?_
    refine k_get C0 fg_X9_71 hP 1 rfl rfl dX9_hold_14 ?_
    refine k_jim hP hD hS hA [0, 3, 4, 15, 19, 20, 17, 14, 5, 11, 6, 12, 21, 7, 8, 9] [false, true, true, false, false, false, false, false, false, false, true, false, false, true, false, false, true, false, true] rfl rfl (by decide +kernel) 0 0 (Nat.le_of_ble_eq_true rfl) (Nat.le_of_ble_eq_true rfl) (fun hPc hDc => k_runV (As := []) (rest := []) C0 hZ hS hA (s_X1_holders l dC dI cy sq a_this_choice a_this_street a_this_machine a_this_machine_facts f19 a_this_machine_stack f20 a_this_plan x_this_plan_cycle x_this_plan_green x_this_plan_rule x_this_plan_least x_this_plan_away x_this_plan_statements x_this_plan_kinds a_this_plan_calm g_this_plan_calm a_this_plan_pace g_this_plan_pace a_this_plan_trusts x_this_plan_walkers a_this_plan_kindOf g_this_plan_kindOf a_this_plan_comesAt g_this_plan_comesAt a_this_plan_comers a_this_plan_names a_this_plan_code g_this_plan_code x_this_plan_size a_this_plan_spans g_this_plan_spans v11 a_this_street_trusts f23 v12 v13 v14 x_this_street_asksReds a_this_street_cars a_this_street_gaps f22 a_this_street_known f24 a_this_street_left f25 a_this_street_leaves v15 v16 v17 v18 a_this_choice_table x_this_choice_tableKnown (ib_w 0 12 hx_this_plan_walkers rfl) hg_this_plan_kindOf hg_this_plan_comesAt hg_this_plan_spans (ib_w 0 1 hx_this_street_asksReds rfl)) mV_X9_239 hPc hDc rfl rfl rfl hl rfl rfl (Nat.le_of_ble_eq_true rfl) ⟨(Nat.le_of_ble_eq_true rfl), (Nat.le_of_ble_eq_true rfl)⟩ ⟨(Nat.le_of_ble_eq_true rfl), (Nat.le_of_ble_eq_true rfl)⟩ dX9_hold_17) (fun r28 u29 H locs hw hP hD hS => ?_)
    obtain ⟨f30, f31, f32⟩ := u29
    try dsimp only at hP hD hw
    replace hP : va_P (dC, dI) vwCl [(wo_9_rirrrrrrrrrrrirl a_this a_this_tape x_this_tapeSize a_this_plan a_this_spare a_this_now a_this_history a_this_machine a_this_reader a_this_street a_this_choice a_this_ahead a_this_watch a_this_octets x_this_octetCount a_this_refusals x_this_drawn), (wo_6_iiir a_this_now x_this_now_day x_this_now_rule x_this_now_green a_this_now_trusts), (wi_0_320_0 a_this_street_cars cy f21), (wi_0_6_0 a_this_now_trusts cy g_this_now_trusts), (wi_0_200_0 a_this_plan_comers cy g_this_plan_comers), (wi_0_12_0 a_this_street_leaves cy f26), (wo_1_rri a_this_choice a_this_street a_this_choice_table x_this_choice_tableKnown), (wo_7_rririiiirrrrriiii a_this_street a_this_machine a_this_plan v11 a_this_street_trusts v12 v13 v14 x_this_street_asksReds a_this_street_cars a_this_street_gaps a_this_street_known a_this_street_left a_this_street_leaves v15 v16 v17 v18), (wo_4_iiiiiiirrrirrrrrir a_this_plan x_this_plan_cycle x_this_plan_green x_this_plan_rule x_this_plan_least x_this_plan_away x_this_plan_statements x_this_plan_kinds a_this_plan_calm a_this_plan_pace a_this_plan_trusts x_this_plan_walkers a_this_plan_kindOf a_this_plan_comesAt a_this_plan_comers a_this_plan_names a_this_plan_code x_this_plan_size a_this_plan_spans), (wi_0_12_0 a_this_plan_kindOf cy g_this_plan_kindOf), (wi_0_6_0 a_this_plan_pace cy g_this_plan_pace), (wi_0_12_0 a_this_plan_comesAt cy g_this_plan_comesAt), (wi_0_300_0 a_this_street_left cy f25), (wi_0_3600_0 a_this_street_known cy f30), (wo_3_rr a_this_machine a_this_machine_facts a_this_machine_stack), (wi_0_320_0 a_this_street_gaps cy f22), (wi_0_13_0 a_this_machine_facts cy f31), (wi_0_6_0 a_this_street_trusts cy f23), (wi_0_6_0 a_this_plan_calm cy g_this_plan_calm), (wi_0_6_0 a_this_plan_spans cy g_this_plan_spans), (wi_0_1600_0 a_this_plan_code cy g_this_plan_code), (wi_0_64_0 a_this_machine_stack cy f32)] H := hP
    replace hD := k_D hP hD
    have h33 := hw
    replace hq := lf_p1 hq h33
    replace hq := lf_p1 hq rfl
    replace hq := lf_p1 hq rfl
    subst hQ; exact k_iret hx hb hr hlk rfl ((v11, v12, v13, v14, v15, v16, v17, v18, f31, f32, f21, f22, f23, f30, f25, f26)) hS ((hO.symm.trans (by exact hq))) (hP.sub [0, 8, 1, 7, 14, 16, 19, 20, 21, 2, 15, 17, 3, 13, 9, 4, 12, 5, 10, 11, 18, 6] rfl) (hD.sub [0, 8, 1, 7, 14, 16, 19, 20, 21, 2, 15, 17, 3, 13, 9, 4, 12, 5, 10, 11, 18, 6] (by decide +kernel) rfl) (Nat.le_of_ble_eq_true rfl) (Nat.le_of_ble_eq_true rfl) dX9_hold_20
  · replace hq := lf_pos hq (lf_eq (lf_rf r1) (lf_lc 0 (0 : Int) rfl) c6)
    have h34 := ib_eq h3 (ib_c 0 0 0 rfl) c6
    have h35 : ib r1 0 0 := ib_w 0 0 h34.1 rfl
    refine lv_iconst (v := (-1)) hx hb dX9_hold_7 rfl ?_
    subst hQ; exact k_iret hx hb hr hlk rfl ((x_this_street_day, x_this_street_rule, x_this_street_green, x_this_street_absent, x_this_street_pressed, x_this_street_crossed, x_this_street_went, x_this_street_harmed, g_this_machine_facts, g_this_machine_stack, g_this_street_cars, g_this_street_gaps, g_this_street_trusts, g_this_street_known, g_this_street_left, g_this_street_leaves)) hS ((hO.symm.trans (by try simp only [show ((-1) : Int32).toInt = (-1 : Int) from rfl]; exact hq))) (hP.sub [20, 21, 0, 1, 2, 3, 4, 5, 6, 7, 8, 9, 10, 11, 12, 13, 14, 15, 16, 17, 18, 19] rfl) (hD.sub [20, 21, 0, 1, 2, 3, 4, 5, 6, 7, 8, 9, 10, 11, 12, 13, 14, 15, 16, 17, 18, 19] (by decide +kernel) rfl) (Nat.le_of_ble_eq_true rfl) (Nat.le_of_ble_eq_true rfl) dX9_hold_8
set_option maxHeartbeats 4000000 in
set_option maxRecDepth 100000 in
theorem s_X9_check_i1_0_10_r11 (l : Launch) (dC : Nat → ClassId) (dI : Nat → Nat → Nat) (cy : Nat → ClassId) (sq : Nat → Nat) (a_arg0 : Nat) (g_arg0 : Nat → Int32) (p1 : Int32) (hp1 : ib p1 0 10) : k_Met l yX9_check cX9_check 4 (some .int) { frames := 0, cells := 0, slots := 0, locals := 0 } dC dI cy sq [.ref a_arg0, .int p1] [(wi_0_11_0 a_arg0 cy g_arg0)] (k_Qi dC dI (fun (r : Int32) (_ : Unit) => (F_X9_check_i1_0_10_r11 (lf_A g_arg0) (Int32.toInt p1) = ((Int32.toInt r)))) (fun _ : Unit => [(wi_0_11_0 a_arg0 cy g_arg0)])) := by
  refine k_ofW2 (by decide +kernel) (Nat.le_of_ble_eq_true rfl) ?_
  intro p e s m below meth c A ls H locs args Q hQ C0 hZ hr hlk hin hP hD hA hS hl
  have C0 : k_cx p s m args c cX9_check 4 RX9 dC dI cy sq := C0
  have hx := C0.1
  have hb := C0.2.1
  have hl : lv_has ls 4 [(0, .ref a_arg0), (1, .int p1)] := hl
  obtain ⟨O, hO⟩ : ∃ o, o = F_X9_check_i1_0_10_r11 (lf_A g_arg0) (Int32.toInt p1) := ⟨_, rfl⟩
  have hq := hO
  unfold F_X9_check_i1_0_10_r11 at hq
  have jn5 : ∀ (n : Nat) (J5_l2 : Int32) (J5_l3 : Int32) (H : Heap) (locs : List Loc) (ls : Array Slot), ib J5_l3 0 10 → (O = F_X9_check_i1_0_10_r11_5 (lf_A g_arg0) (Int32.toInt p1) n (Int32.toInt J5_l2) (Int32.toInt J5_l3)) → 11 ≤ J5_l3.toInt + (n : Int) → va_P (dC, dI) vwCl [(wi_0_11_0 a_arg0 cy g_arg0)] H → va_D A [(wi_0_11_0 a_arg0 cy g_arg0)] → va_S A s.heap H locs → lv_has ls 4 [(0, .ref a_arg0), (1, .int p1), (2, .int J5_l2), (3, .int J5_l3)] → W p l e { frames := 0, cells := 0, slots := 0, locals := 0 } s m args below meth c H locs 0 0 Q (F0 m 5 ls []) := by
    as_aux_lemma =>
      intro n
      induction n with
      | zero =>
        intro J5_l2 J5_l3 H locs ls hJ5_l3 hq hm
        exact absurd hm (by have := hJ5_l3; unfold ib at this; omega)
      | succ n ih =>
        intro J5_l2 J5_l3 H locs ls hJ5_l3 hq hm5 hP hD hS hl
        have ih5 := ih
        obtain ⟨K5, hK5⟩ : ∃ K, K = F_X9_check_i1_0_10_r11_5 (lf_A g_arg0) (Int32.toInt p1) n := ⟨_, rfl⟩
        have hq : O = F_X9_check_i1_0_10_r11_5b (lf_A g_arg0) (Int32.toInt p1) K5 (Int32.toInt J5_l2) (Int32.toInt J5_l3) := by rw [hK5]; exact hq
        unfold F_X9_check_i1_0_10_r11_5b at hq
        refine lv_iload_n hx hb dX9_check_5 rfl (lv_at hl 3 rfl) ?_
        refine lv_iload_n hx hb dX9_check_6 rfl (lv_at hl 1 rfl) ?_
        refine lv_icmp_ge (tgt := 28) hx hb dX9_check_7 rfl (fun c1 => ?_) (fun c1 => ?_)
        · replace hq := lf_pos hq (lf_le (lf_rf p1) (lf_rf J5_l3) c1)
          have h2 := ib_le hp1 hJ5_l3 c1
          refine lv_iload_n hx hb dX9_check_28 rfl (lv_at hl 2 rfl) ?_
          subst hQ; exact k_iret hx hb hr hlk rfl () hS ((hO.symm.trans (by exact hq))) hP hD (Nat.le_of_ble_eq_true rfl) (Nat.le_of_ble_eq_true rfl) dX9_check_29
        · as_aux_lemma =>
            replace hq := lf_neg hq (lf_nle (lf_rf p1) (lf_rf J5_l3) c1)
            have h3 := ib_nle hp1 hJ5_l3 c1
            have h4 : ib p1 1 10 := ib_w 1 10 h3.1 rfl
            have h5 : ib J5_l3 0 9 := ib_w 0 9 h3.2 rfl
            refine lv_iconst (v := 3) hx hb dX9_check_10 rfl ?_
            refine lv_iload_n hx hb dX9_check_11 rfl (lv_at hl 2 rfl) ?_
            refine lv_imul hx hb dX9_check_12 ?_
            refine lv_topi (fun z6 ez6 => ?_)
            have Ez6 := lf_op lf_imul ez6 (lf_lc 3 (3 : Int) rfl) (lf_rf J5_l2)
            refine lv_aload_n hx hb dX9_check_13 rfl (lv_at hl 0 rfl) ?_
            refine lv_iload_n hx hb dX9_check_14 rfl (lv_at hl 3 rfl) ?_
            refine va_iald hx hb C0.2.2.2.2.2.1 hP 0 0 rfl rfl (ib_in 11 h5 rfl) dX9_check_15 ?_
            refine lv_topi (fun z7 ez7 => ?_)
            have Ez7 := lf_ld ez7 (lf_ra g_arg0) (lf_rf J5_l3)
            refine lv_iadd hx hb dX9_check_16 ?_
            refine lv_topi (fun z8 ez8 => ?_)
            have Ez8 := lf_op lf_iadd ez8 Ez6 Ez7
            refine lv_sipush (v := 251) hx hb dX9_check_17 rfl ?_
            refine lv_irem hx hb dX9_check_20 (by decide) ?_
            refine lv_topi (fun z9 ez9 => ?_)
            have Ez9 := lf_op lf_irem ez9 Ez8 (lf_lc 251 (251 : Int) rfl)
            refine lv_istore_n (lv' := [(2, .int z9), (0, .ref a_arg0), (1, .int p1), (3, .int J5_l3)]) hx hb dX9_check_21 rfl hl (Nat.le_of_ble_eq_true rfl) rfl (fun ls hl => ?_)
            obtain ⟨z10, ez10⟩ : ∃ y : Int32, y = J5_l3 + 1 := ⟨_, rfl⟩
            refine lv_iinc (v := z10) (lv' := [(3, .int z10), (2, .int z9), (0, .ref a_arg0), (1, .int p1)]) hx hb dX9_check_22 hl (k := 3) rfl (by rw [ez10]; rfl) (Nat.le_of_ble_eq_true rfl) rfl (fun ls hl => ?_)
            have h11 := ib_add h5 (ib_c 1 1 1 rfl) rfl
            rw [← ez10] at h11
            have h12 : ib z10 1 10 := ib_w 1 10 h11.1 rfl
            have Ez10 := lf_add h11.2 (lf_rf J5_l3) (lf_lc 1 (1 : Int) rfl)
            refine lv_goto (tgt := 5) hx hb dX9_check_25 rfl ?_
            exact ih5 z9 z10 H locs ls (ib_w 0 10 h12 rfl) (by rw [← hK5]; rw [lf_u Ez9]; rw [lf_u Ez10]; exact hq) (by have := h11.2; have : (1 : Int32).toInt = 1 := rfl; omega) hP hD hS (lv_sub hl [2, 3, 1, 0] rfl)
  refine lv_bipush (v := 101) hx hb dX9_check_0 rfl ?_
  refine lv_istore_n (lv' := [(2, .int 101), (0, .ref a_arg0), (1, .int p1)]) hx hb dX9_check_2 rfl hl (Nat.le_of_ble_eq_true rfl) rfl (fun ls hl => ?_)
  refine lv_iconst (v := 0) hx hb dX9_check_3 rfl ?_
  refine lv_istore_n (lv' := [(3, .int 0), (2, .int 101), (0, .ref a_arg0), (1, .int p1)]) hx hb dX9_check_4 rfl hl (Nat.le_of_ble_eq_true rfl) rfl (fun ls hl => ?_)
  exact jn5 12 101 0 H locs ls (ib_w 0 10 (ib_c 0 0 0 rfl) rfl) (by try simp only [show (101 : Int32).toInt = (101 : Int) from rfl]; try simp only [show (0 : Int32).toInt = (0 : Int) from rfl]; exact hq) (by have := (ib_c 0 0 0 rfl); unfold ib at this; omega) hP hD hS (lv_sub hl [2, 3, 1, 0] rfl)
set_option maxHeartbeats 4000000 in
set_option maxRecDepth 100000 in
theorem s_X9_image (l : Launch) (dC : Nat → ClassId) (dI : Nat → Nat → Nat) (cy : Nat → ClassId) (sq : Nat → Nat) (a_this : Nat) (a_this_tape : Nat) (x_this_tapeSize : Int32) (a_this_plan : Nat) (x_this_plan_cycle : Int32) (x_this_plan_green : Int32) (x_this_plan_rule : Int32) (x_this_plan_least : Int32) (x_this_plan_away : Int32) (x_this_plan_statements : Int32) (x_this_plan_kinds : Int32) (a_this_plan_calm : Nat) (a_this_plan_pace : Nat) (a_this_plan_trusts : Nat) (x_this_plan_walkers : Int32) (a_this_plan_kindOf : Nat) (a_this_plan_comesAt : Nat) (a_this_plan_comers : Nat) (a_this_plan_names : Nat) (a_this_plan_code : Nat) (x_this_plan_size : Int32) (a_this_plan_spans : Nat) (a_this_spare : Nat) (a_this_now : Nat) (x_this_now_day : Int32) (x_this_now_rule : Int32) (x_this_now_green : Int32) (a_this_now_trusts : Nat) (g_this_now_trusts : Nat → Int32) (a_this_history : Nat) (a_this_machine : Nat) (a_this_reader : Nat) (a_this_street : Nat) (a_this_choice : Nat) (a_this_ahead : Nat) (a_this_watch : Nat) (a_this_octets : Nat) (g_this_octets : Nat → Int32) (x_this_octetCount : Int32) (a_this_refusals : Nat) (x_this_drawn : Int64) (hx_this_plan_kinds : ib x_this_plan_kinds 0 6) : k_Met l yX9_image cX9_image 2 (some .int) { frames := 1, cells := 0, slots := 0, locals := 23 } dC dI cy sq [.ref a_this] [(wo_9_rirrrrrrrrrrrirl a_this a_this_tape x_this_tapeSize a_this_plan a_this_spare a_this_now a_this_history a_this_machine a_this_reader a_this_street a_this_choice a_this_ahead a_this_watch a_this_octets x_this_octetCount a_this_refusals x_this_drawn), (wo_6_iiir a_this_now x_this_now_day x_this_now_rule x_this_now_green a_this_now_trusts), (wi_0_11_0 a_this_octets cy g_this_octets), (wo_4_iiiiiiirrrirrrrrir a_this_plan x_this_plan_cycle x_this_plan_green x_this_plan_rule x_this_plan_least x_this_plan_away x_this_plan_statements x_this_plan_kinds a_this_plan_calm a_this_plan_pace a_this_plan_trusts x_this_plan_walkers a_this_plan_kindOf a_this_plan_comesAt a_this_plan_comers a_this_plan_names a_this_plan_code x_this_plan_size a_this_plan_spans), (wi_0_6_0 a_this_now_trusts cy g_this_now_trusts)] (k_Qi dC dI (fun (r : Int32) (u : Int32 × (Nat → Int32)) => match u with | (n0, n1) => ib r 5 11 ∧ ib n0 5 11 ∧ (F_X9_image (Int32.toInt x_this_plan_kinds) (Int32.toInt x_this_now_day) (Int32.toInt x_this_now_rule) (Int32.toInt x_this_now_green) (lf_A g_this_now_trusts) (lf_A g_this_octets) = ((Int32.toInt r), (Int32.toInt n0), (lf_A n1)))) (fun u : Int32 × (Nat → Int32) => match u with | (n0, n1) => [(wo_9_rirrrrrrrrrrrirl a_this a_this_tape x_this_tapeSize a_this_plan a_this_spare a_this_now a_this_history a_this_machine a_this_reader a_this_street a_this_choice a_this_ahead a_this_watch a_this_octets n0 a_this_refusals x_this_drawn), (wo_6_iiir a_this_now x_this_now_day x_this_now_rule x_this_now_green a_this_now_trusts), (wi_0_11_0 a_this_octets cy n1), (wo_4_iiiiiiirrrirrrrrir a_this_plan x_this_plan_cycle x_this_plan_green x_this_plan_rule x_this_plan_least x_this_plan_away x_this_plan_statements x_this_plan_kinds a_this_plan_calm a_this_plan_pace a_this_plan_trusts x_this_plan_walkers a_this_plan_kindOf a_this_plan_comesAt a_this_plan_comers a_this_plan_names a_this_plan_code x_this_plan_size a_this_plan_spans), (wi_0_6_0 a_this_now_trusts cy g_this_now_trusts)])) := by
  refine k_ofW2 (by decide +kernel) (Nat.le_of_ble_eq_true rfl) ?_
  intro p e s m below meth c A ls H locs args Q hQ C0 hZ hr hlk hin hP hD hA hS hl
  have C0 : k_cx p s m args c cX9_image 2 RX9 dC dI cy sq := C0
  have hx := C0.1
  have hb := C0.2.1
  have hl : lv_has ls 2 [(0, .ref a_this)] := hl
  obtain ⟨O, hO⟩ : ∃ o, o = F_X9_image (Int32.toInt x_this_plan_kinds) (Int32.toInt x_this_now_day) (Int32.toInt x_this_now_rule) (Int32.toInt x_this_now_green) (lf_A g_this_now_trusts) (lf_A g_this_octets) := ⟨_, rfl⟩
  have hq := hO
  unfold F_X9_image at hq
  have jn61 : ∀ (n : Nat) (J61_a2 : Nat → Int32) (J61_l1 : Int32) (H : Heap) (locs : List Loc) (ls : Array Slot), ib J61_l1 0 6 → (O = F_X9_image_61 (Int32.toInt x_this_plan_kinds) (lf_A g_this_now_trusts) n (lf_A J61_a2) (Int32.toInt J61_l1)) → 7 ≤ J61_l1.toInt + (n : Int) → va_P (dC, dI) vwCl [(wo_9_rirrrrrrrrrrrirl a_this a_this_tape x_this_tapeSize a_this_plan a_this_spare a_this_now a_this_history a_this_machine a_this_reader a_this_street a_this_choice a_this_ahead a_this_watch a_this_octets x_this_octetCount a_this_refusals x_this_drawn), (wo_6_iiir a_this_now x_this_now_day x_this_now_rule x_this_now_green a_this_now_trusts), (wi_0_11_0 a_this_octets cy J61_a2), (wo_4_iiiiiiirrrirrrrrir a_this_plan x_this_plan_cycle x_this_plan_green x_this_plan_rule x_this_plan_least x_this_plan_away x_this_plan_statements x_this_plan_kinds a_this_plan_calm a_this_plan_pace a_this_plan_trusts x_this_plan_walkers a_this_plan_kindOf a_this_plan_comesAt a_this_plan_comers a_this_plan_names a_this_plan_code x_this_plan_size a_this_plan_spans), (wi_0_6_0 a_this_now_trusts cy g_this_now_trusts)] H → va_D A [(wo_9_rirrrrrrrrrrrirl a_this a_this_tape x_this_tapeSize a_this_plan a_this_spare a_this_now a_this_history a_this_machine a_this_reader a_this_street a_this_choice a_this_ahead a_this_watch a_this_octets x_this_octetCount a_this_refusals x_this_drawn), (wo_6_iiir a_this_now x_this_now_day x_this_now_rule x_this_now_green a_this_now_trusts), (wi_0_11_0 a_this_octets cy J61_a2), (wo_4_iiiiiiirrrirrrrrir a_this_plan x_this_plan_cycle x_this_plan_green x_this_plan_rule x_this_plan_least x_this_plan_away x_this_plan_statements x_this_plan_kinds a_this_plan_calm a_this_plan_pace a_this_plan_trusts x_this_plan_walkers a_this_plan_kindOf a_this_plan_comesAt a_this_plan_comers a_this_plan_names a_this_plan_code x_this_plan_size a_this_plan_spans), (wi_0_6_0 a_this_now_trusts cy g_this_now_trusts)] → va_S A s.heap H locs → lv_has ls 2 [(0, .ref a_this), (1, .int J61_l1)] → W p l e { frames := 1, cells := 0, slots := 0, locals := 23 } s m args below meth c H locs 0 0 Q (F0 m 61 ls []) := by
    as_aux_lemma =>
      intro n
      induction n with
      | zero =>
        intro J61_a2 J61_l1 H locs ls hJ61_l1 hq hm
        exact absurd hm (by have := hJ61_l1; unfold ib at this; omega)
      | succ n ih =>
        intro J61_a2 J61_l1 H locs ls hJ61_l1 hq hm61 hP hD hS hl
        have ih61 := ih
        obtain ⟨K61, hK61⟩ : ∃ K, K = F_X9_image_61 (Int32.toInt x_this_plan_kinds) (lf_A g_this_now_trusts) n := ⟨_, rfl⟩
        have hq : O = F_X9_image_61b (Int32.toInt x_this_plan_kinds) (lf_A g_this_now_trusts) K61 (lf_A J61_a2) (Int32.toInt J61_l1) := by rw [hK61]; exact hq
        unfold F_X9_image_61b at hq
        refine lv_iload_n hx hb dX9_image_61 rfl (lv_at hl 1 rfl) ?_
        refine lv_aload_n hx hb dX9_image_62 rfl (lv_at hl 0 rfl) ?_
        refine k_get C0 fg_X9_20 hP 0 rfl rfl dX9_image_63 ?_
        refine k_get C0 fg_X9_148 hP 3 rfl rfl dX9_image_66 ?_
        refine lv_icmp_ge (tgt := 95) hx hb dX9_image_69 rfl (fun c1 => ?_) (fun c1 => ?_)
        · as_aux_lemma =>
            replace hq := lf_pos hq (lf_le (lf_rf x_this_plan_kinds) (lf_rf J61_l1) c1)
            have h2 := ib_le hx_this_plan_kinds hJ61_l1 c1
            refine lv_iconst (v := 4) hx hb dX9_image_95 rfl ?_
            refine lv_aload_n hx hb dX9_image_96 rfl (lv_at hl 0 rfl) ?_
            refine k_get C0 fg_X9_20 hP 0 rfl rfl dX9_image_97 ?_
            refine k_get C0 fg_X9_148 hP 3 rfl rfl dX9_image_100 ?_
            refine lv_iadd hx hb dX9_image_103 ?_
            refine lv_topi (fun z3 ez3 => ?_)
            have h4 := ib_add (ib_c 4 4 4 rfl) hx_this_plan_kinds rfl
            rw [← ez3] at h4
            have h5 : ib z3 4 10 := ib_w 4 10 h4.1 rfl
            have Ez3 := lf_add h4.2 (lf_lc 4 (4 : Int) rfl) (lf_rf x_this_plan_kinds)
            refine lv_istore_n (lv' := [(1, .int z3), (0, .ref a_this)]) hx hb dX9_image_104 rfl hl (Nat.le_of_ble_eq_true rfl) rfl (fun ls hl => ?_)
            refine lv_aload_n hx hb dX9_image_105 rfl (lv_at hl 1 rfl) ?_
            refine k_get C0 fg_X9_89 hP 0 rfl rfl dX9_image_106 ?_
            refine lv_iload_n hx hb dX9_image_109 rfl (lv_at hl 0 rfl) ?_
            refine lv_aload_n hx hb dX9_image_110 rfl (lv_at hl 1 rfl) ?_
            refine k_get C0 fg_X9_89 hP 0 rfl rfl dX9_image_111 ?_
            refine lv_iload_n hx hb dX9_image_114 rfl (lv_at hl 0 rfl) ?_
            refine k_jim hP hD hS hA [2] [true, true, false, true, true] rfl rfl rfl 0 0 (Nat.le_of_ble_eq_true rfl) (Nat.le_of_ble_eq_true rfl) (fun hPc hDc => k_runS (As := [.ref a_this_octets, .int z3]) (rest := [.int z3, .ref a_this_octets]) C0 hZ hS hA (s_X9_check_i1_0_10_r11 l dC dI cy sq a_this_octets J61_a2 z3 (ib_w 0 10 h5 rfl)) mS_X9_319 hPc hDc hl rfl rfl (Nat.le_of_ble_eq_true rfl) ⟨(Nat.le_of_ble_eq_true rfl), (Nat.le_of_ble_eq_true rfl)⟩ ⟨(Nat.le_of_ble_eq_true rfl), (Nat.le_of_ble_eq_true rfl)⟩ dX9_image_115) (fun r6 u7 H locs hw hP hD hS => ?_)
            try dsimp only at hP hD hw
            replace hP : va_P (dC, dI) vwCl [(wo_9_rirrrrrrrrrrrirl a_this a_this_tape x_this_tapeSize a_this_plan a_this_spare a_this_now a_this_history a_this_machine a_this_reader a_this_street a_this_choice a_this_ahead a_this_watch a_this_octets x_this_octetCount a_this_refusals x_this_drawn), (wo_6_iiir a_this_now x_this_now_day x_this_now_rule x_this_now_green a_this_now_trusts), (wo_4_iiiiiiirrrirrrrrir a_this_plan x_this_plan_cycle x_this_plan_green x_this_plan_rule x_this_plan_least x_this_plan_away x_this_plan_statements x_this_plan_kinds a_this_plan_calm a_this_plan_pace a_this_plan_trusts x_this_plan_walkers a_this_plan_kindOf a_this_plan_comesAt a_this_plan_comers a_this_plan_names a_this_plan_code x_this_plan_size a_this_plan_spans), (wi_0_6_0 a_this_now_trusts cy g_this_now_trusts), (wi_0_11_0 a_this_octets cy J61_a2)] H := hP
            replace hD := k_D hP hD
            have h8 := hw
            have h8 := by have h9 := h8; rw [lf_u Ez3] at h9; exact h9
            replace hq := lf_b1 hq h8
            refine va_iast hx hb C0.2.2.2.2.2.1 hP hD hS 4 0 rfl rfl (ib_in 11 h5 rfl) dX9_image_118 (fun H locs hP hD hS => ?_)
            replace hP : va_P (dC, dI) vwCl [(wo_9_rirrrrrrrrrrrirl a_this a_this_tape x_this_tapeSize a_this_plan a_this_spare a_this_now a_this_history a_this_machine a_this_reader a_this_street a_this_choice a_this_ahead a_this_watch a_this_octets x_this_octetCount a_this_refusals x_this_drawn), (wo_6_iiir a_this_now x_this_now_day x_this_now_rule x_this_now_green a_this_now_trusts), (wo_4_iiiiiiirrrirrrrrir a_this_plan x_this_plan_cycle x_this_plan_green x_this_plan_rule x_this_plan_least x_this_plan_away x_this_plan_statements x_this_plan_kinds a_this_plan_calm a_this_plan_pace a_this_plan_trusts x_this_plan_walkers a_this_plan_kindOf a_this_plan_comesAt a_this_plan_comers a_this_plan_names a_this_plan_code x_this_plan_size a_this_plan_spans), (wi_0_6_0 a_this_now_trusts cy g_this_now_trusts), (wi_0_11_0 a_this_octets cy (upd J61_a2 (Int32.toNatClampNeg z3) r6))] H := hP
            replace hD := k_D hP hD
            generalize ef9 : upd J61_a2 (Int32.toNatClampNeg z3) r6 = f9 at hP hD
            have Ef9 := lf_st ef9 (lf_ra J61_a2) Ez3 (lf_rf r6)
            refine lv_aload_n hx hb dX9_image_119 rfl (lv_at hl 1 rfl) ?_
            refine lv_iload_n hx hb dX9_image_120 rfl (lv_at hl 0 rfl) ?_
            refine lv_iconst (v := 1) hx hb dX9_image_121 rfl ?_
            refine lv_iadd hx hb dX9_image_122 ?_
            refine lv_topi (fun z10 ez10 => ?_)
            have h11 := ib_add h5 (ib_c 1 1 1 rfl) rfl
            rw [← ez10] at h11
            have h12 : ib z10 5 11 := ib_w 5 11 h11.1 rfl
            have Ez10 := lf_add h11.2 Ez3 (lf_lc 1 (1 : Int) rfl)
            refine k_put C0 fp_X9_92 hP hD hS 0 rfl rfl rfl (Nat.le_of_ble_eq_true rfl) dX9_image_123 (fun H locs hP hD hS => ?_)
            replace hP : va_P (dC, dI) vwCl [(wo_9_rirrrrrrrrrrrirl a_this a_this_tape x_this_tapeSize a_this_plan a_this_spare a_this_now a_this_history a_this_machine a_this_reader a_this_street a_this_choice a_this_ahead a_this_watch a_this_octets z10 a_this_refusals x_this_drawn), (wo_6_iiir a_this_now x_this_now_day x_this_now_rule x_this_now_green a_this_now_trusts), (wo_4_iiiiiiirrrirrrrrir a_this_plan x_this_plan_cycle x_this_plan_green x_this_plan_rule x_this_plan_least x_this_plan_away x_this_plan_statements x_this_plan_kinds a_this_plan_calm a_this_plan_pace a_this_plan_trusts x_this_plan_walkers a_this_plan_kindOf a_this_plan_comesAt a_this_plan_comers a_this_plan_names a_this_plan_code x_this_plan_size a_this_plan_spans), (wi_0_6_0 a_this_now_trusts cy g_this_now_trusts), (wi_0_11_0 a_this_octets cy f9)] H := hP
            replace hD := k_D hP hD
            refine lv_aload_n hx hb dX9_image_126 rfl (lv_at hl 1 rfl) ?_
            refine k_get C0 fg_X9_92 hP 0 rfl rfl dX9_image_127 ?_
            subst hQ; exact k_iret hx hb hr hlk rfl ((z10, f9)) hS ⟨ib_w 5 11 h12 rfl, ib_w 5 11 h12 rfl, (hO.symm.trans (by rw [lf_u Ez10]; rw [lf_ua Ef9]; exact hq))⟩ (hP.sub [0, 1, 4, 2, 3] rfl) (hD.sub [0, 1, 4, 2, 3] rfl rfl) (Nat.le_of_ble_eq_true rfl) (Nat.le_of_ble_eq_true rfl) dX9_image_130
        · as_aux_lemma =>
            replace hq := lf_neg hq (lf_nle (lf_rf x_this_plan_kinds) (lf_rf J61_l1) c1)
            have h13 := ib_nle hx_this_plan_kinds hJ61_l1 c1
            have h14 : ib x_this_plan_kinds 1 6 := ib_w 1 6 h13.1 rfl
            have h15 : ib J61_l1 0 5 := ib_w 0 5 h13.2 rfl
            refine lv_aload_n hx hb dX9_image_72 rfl (lv_at hl 0 rfl) ?_
            refine k_get C0 fg_X9_89 hP 0 rfl rfl dX9_image_73 ?_
            refine lv_iconst (v := 4) hx hb dX9_image_76 rfl ?_
            refine lv_iload_n hx hb dX9_image_77 rfl (lv_at hl 1 rfl) ?_
            refine lv_iadd hx hb dX9_image_78 ?_
            refine lv_topi (fun z16 ez16 => ?_)
            have h17 := ib_add (ib_c 4 4 4 rfl) h15 rfl
            rw [← ez16] at h17
            have h18 : ib z16 4 9 := ib_w 4 9 h17.1 rfl
            have Ez16 := lf_add h17.2 (lf_lc 4 (4 : Int) rfl) (lf_rf J61_l1)
            refine lv_aload_n hx hb dX9_image_79 rfl (lv_at hl 0 rfl) ?_
            refine k_get C0 fg_X9_30 hP 0 rfl rfl dX9_image_80 ?_
            refine k_get C0 fg_X9_184 hP 1 rfl rfl dX9_image_83 ?_
            refine lv_iload_n hx hb dX9_image_86 rfl (lv_at hl 1 rfl) ?_
            refine va_iald hx hb C0.2.2.2.2.2.1 hP 4 0 rfl rfl (ib_in 6 h15 rfl) dX9_image_87 ?_
            refine lv_topi (fun z19 ez19 => ?_)
            have Ez19 := lf_ld ez19 (lf_ra g_this_now_trusts) (lf_rf J61_l1)
            refine va_iast hx hb C0.2.2.2.2.2.1 hP hD hS 2 0 rfl rfl (ib_in 11 h18 rfl) dX9_image_88 (fun H locs hP hD hS => ?_)
            replace hP : va_P (dC, dI) vwCl [(wo_9_rirrrrrrrrrrrirl a_this a_this_tape x_this_tapeSize a_this_plan a_this_spare a_this_now a_this_history a_this_machine a_this_reader a_this_street a_this_choice a_this_ahead a_this_watch a_this_octets x_this_octetCount a_this_refusals x_this_drawn), (wo_6_iiir a_this_now x_this_now_day x_this_now_rule x_this_now_green a_this_now_trusts), (wi_0_11_0 a_this_octets cy (upd J61_a2 (Int32.toNatClampNeg z16) z19)), (wo_4_iiiiiiirrrirrrrrir a_this_plan x_this_plan_cycle x_this_plan_green x_this_plan_rule x_this_plan_least x_this_plan_away x_this_plan_statements x_this_plan_kinds a_this_plan_calm a_this_plan_pace a_this_plan_trusts x_this_plan_walkers a_this_plan_kindOf a_this_plan_comesAt a_this_plan_comers a_this_plan_names a_this_plan_code x_this_plan_size a_this_plan_spans), (wi_0_6_0 a_this_now_trusts cy g_this_now_trusts)] H := hP
            replace hD := k_D hP hD
            generalize ef20 : upd J61_a2 (Int32.toNatClampNeg z16) z19 = f20 at hP hD
            have Ef20 := lf_st ef20 (lf_ra J61_a2) Ez16 Ez19
            obtain ⟨z21, ez21⟩ : ∃ y : Int32, y = J61_l1 + 1 := ⟨_, rfl⟩
            refine lv_iinc (v := z21) (lv' := [(1, .int z21), (0, .ref a_this)]) hx hb dX9_image_89 hl (k := 1) rfl (by rw [ez21]; rfl) (Nat.le_of_ble_eq_true rfl) rfl (fun ls hl => ?_)
            have h22 := ib_add h15 (ib_c 1 1 1 rfl) rfl
            rw [← ez21] at h22
            have h23 : ib z21 1 6 := ib_w 1 6 h22.1 rfl
            have Ez21 := lf_add h22.2 (lf_rf J61_l1) (lf_lc 1 (1 : Int) rfl)
            refine lv_goto (tgt := 61) hx hb dX9_image_92 rfl ?_
            exact ih61 f20 z21 H locs ls (ib_w 0 6 h23 rfl) (by rw [← hK61]; rw [lf_ua Ef20]; rw [lf_u Ez21]; exact hq) (by have := h22.2; have : (1 : Int32).toInt = 1 := rfl; omega) hP hD hS (lv_sub hl [1, 0] rfl)
  refine lv_aload_n hx hb dX9_image_0 rfl (lv_at hl 0 rfl) ?_
  refine k_get C0 fg_X9_89 hP 0 rfl rfl dX9_image_1 ?_
  refine lv_iconst (v := 0) hx hb dX9_image_4 rfl ?_
  refine lv_aload_n hx hb dX9_image_5 rfl (lv_at hl 0 rfl) ?_
  refine k_get C0 fg_X9_30 hP 0 rfl rfl dX9_image_6 ?_
  refine k_get C0 fg_X9_154 hP 1 rfl rfl dX9_image_9 ?_
  refine lv_bipush (v := 8) hx hb dX9_image_12 rfl ?_
  refine lv_ishr hx hb dX9_image_14 ?_
  refine lv_topi (fun z24 ez24 => ?_)
  have Ez24 := lf_op lf_ishr ez24 (lf_rf x_this_now_day) (lf_lc 8 (8 : Int) rfl)
  refine va_iast hx hb C0.2.2.2.2.2.1 hP hD hS 2 0 rfl rfl (k_in 0 11 rfl) dX9_image_15 (fun H locs hP hD hS => ?_)
  replace hP : va_P (dC, dI) vwCl [(wo_9_rirrrrrrrrrrrirl a_this a_this_tape x_this_tapeSize a_this_plan a_this_spare a_this_now a_this_history a_this_machine a_this_reader a_this_street a_this_choice a_this_ahead a_this_watch a_this_octets x_this_octetCount a_this_refusals x_this_drawn), (wo_6_iiir a_this_now x_this_now_day x_this_now_rule x_this_now_green a_this_now_trusts), (wi_0_11_0 a_this_octets cy (upd g_this_octets (Int32.toNatClampNeg 0) z24)), (wo_4_iiiiiiirrrirrrrrir a_this_plan x_this_plan_cycle x_this_plan_green x_this_plan_rule x_this_plan_least x_this_plan_away x_this_plan_statements x_this_plan_kinds a_this_plan_calm a_this_plan_pace a_this_plan_trusts x_this_plan_walkers a_this_plan_kindOf a_this_plan_comesAt a_this_plan_comers a_this_plan_names a_this_plan_code x_this_plan_size a_this_plan_spans), (wi_0_6_0 a_this_now_trusts cy g_this_now_trusts)] H := hP
  replace hD := k_D hP hD
  generalize ef25 : upd g_this_octets (Int32.toNatClampNeg 0) z24 = f25 at hP hD
  have Ef25 := lf_st ef25 (lf_ra g_this_octets) (lf_lc 0 (0 : Int) rfl) Ez24
  refine lv_aload_n hx hb dX9_image_16 rfl (lv_at hl 0 rfl) ?_
  refine k_get C0 fg_X9_89 hP 0 rfl rfl dX9_image_17 ?_
  refine lv_iconst (v := 1) hx hb dX9_image_20 rfl ?_
  refine lv_aload_n hx hb dX9_image_21 rfl (lv_at hl 0 rfl) ?_
  refine k_get C0 fg_X9_30 hP 0 rfl rfl dX9_image_22 ?_
  as_aux_lemma =>
    refine k_get C0 fg_X9_154 hP 1 rfl rfl dX9_image_25 ?_
    refine lv_sipush (v := 255) hx hb dX9_image_28 rfl ?_
    refine lv_iand hx hb dX9_image_31 ?_
    refine lv_topi (fun z26 ez26 => ?_)
    have h27 : ib z26 0 255 := by rw [ez26]; exact ib_and 8 (by decide) (by decide) 255 (by decide)
    have Ez26 := lf_op lf_iand ez26 (lf_rf x_this_now_day) (lf_lc 255 (255 : Int) rfl)
    refine va_iast hx hb C0.2.2.2.2.2.1 hP hD hS 2 0 rfl rfl (k_in 1 11 rfl) dX9_image_32 (fun H locs hP hD hS => ?_)
    replace hP : va_P (dC, dI) vwCl [(wo_9_rirrrrrrrrrrrirl a_this a_this_tape x_this_tapeSize a_this_plan a_this_spare a_this_now a_this_history a_this_machine a_this_reader a_this_street a_this_choice a_this_ahead a_this_watch a_this_octets x_this_octetCount a_this_refusals x_this_drawn), (wo_6_iiir a_this_now x_this_now_day x_this_now_rule x_this_now_green a_this_now_trusts), (wi_0_11_0 a_this_octets cy (upd f25 (Int32.toNatClampNeg 1) z26)), (wo_4_iiiiiiirrrirrrrrir a_this_plan x_this_plan_cycle x_this_plan_green x_this_plan_rule x_this_plan_least x_this_plan_away x_this_plan_statements x_this_plan_kinds a_this_plan_calm a_this_plan_pace a_this_plan_trusts x_this_plan_walkers a_this_plan_kindOf a_this_plan_comesAt a_this_plan_comers a_this_plan_names a_this_plan_code x_this_plan_size a_this_plan_spans), (wi_0_6_0 a_this_now_trusts cy g_this_now_trusts)] H := hP
    replace hD := k_D hP hD
    generalize ef28 : upd f25 (Int32.toNatClampNeg 1) z26 = f28 at hP hD
    have Ef28 := lf_st ef28 Ef25 (lf_lc 1 (1 : Int) rfl) Ez26
    refine lv_aload_n hx hb dX9_image_33 rfl (lv_at hl 0 rfl) ?_
    refine k_get C0 fg_X9_89 hP 0 rfl rfl dX9_image_34 ?_
    refine lv_iconst (v := 2) hx hb dX9_image_37 rfl ?_
    refine lv_aload_n hx hb dX9_image_38 rfl (lv_at hl 0 rfl) ?_
    refine k_get C0 fg_X9_30 hP 0 rfl rfl dX9_image_39 ?_
    refine k_get C0 fg_X9_157 hP 1 rfl rfl dX9_image_42 ?_
    refine va_iast hx hb C0.2.2.2.2.2.1 hP hD hS 2 0 rfl rfl (k_in 2 11 rfl) dX9_image_45 (fun H locs hP hD hS => ?_)
    replace hP : va_P (dC, dI) vwCl [(wo_9_rirrrrrrrrrrrirl a_this a_this_tape x_this_tapeSize a_this_plan a_this_spare a_this_now a_this_history a_this_machine a_this_reader a_this_street a_this_choice a_this_ahead a_this_watch a_this_octets x_this_octetCount a_this_refusals x_this_drawn), (wo_6_iiir a_this_now x_this_now_day x_this_now_rule x_this_now_green a_this_now_trusts), (wi_0_11_0 a_this_octets cy (upd f28 (Int32.toNatClampNeg 2) x_this_now_rule)), (wo_4_iiiiiiirrrirrrrrir a_this_plan x_this_plan_cycle x_this_plan_green x_this_plan_rule x_this_plan_least x_this_plan_away x_this_plan_statements x_this_plan_kinds a_this_plan_calm a_this_plan_pace a_this_plan_trusts x_this_plan_walkers a_this_plan_kindOf a_this_plan_comesAt a_this_plan_comers a_this_plan_names a_this_plan_code x_this_plan_size a_this_plan_spans), (wi_0_6_0 a_this_now_trusts cy g_this_now_trusts)] H := hP
    replace hD := k_D hP hD
    generalize ef29 : upd f28 (Int32.toNatClampNeg 2) x_this_now_rule = f29 at hP hD
    have Ef29 := lf_st ef29 Ef28 (lf_lc 2 (2 : Int) rfl) (lf_rf x_this_now_rule)
    refine lv_aload_n hx hb dX9_image_46 rfl (lv_at hl 0 rfl) ?_
    refine k_get C0 fg_X9_89 hP 0 rfl rfl dX9_image_47 ?_
    refine lv_iconst (v := 3) hx hb dX9_image_50 rfl ?_
    refine lv_aload_n hx hb dX9_image_51 rfl (lv_at hl 0 rfl) ?_
    refine k_get C0 fg_X9_30 hP 0 rfl rfl dX9_image_52 ?_
    refine k_get C0 fg_X9_160 hP 1 rfl rfl dX9_image_55 ?_
    refine va_iast hx hb C0.2.2.2.2.2.1 hP hD hS 2 0 rfl rfl (k_in 3 11 rfl) dX9_image_58 (fun H locs hP hD hS => ?_)
    replace hP : va_P (dC, dI) vwCl [(wo_9_rirrrrrrrrrrrirl a_this a_this_tape x_this_tapeSize a_this_plan a_this_spare a_this_now a_this_history a_this_machine a_this_reader a_this_street a_this_choice a_this_ahead a_this_watch a_this_octets x_this_octetCount a_this_refusals x_this_drawn), (wo_6_iiir a_this_now x_this_now_day x_this_now_rule x_this_now_green a_this_now_trusts), (wi_0_11_0 a_this_octets cy (upd f29 (Int32.toNatClampNeg 3) x_this_now_green)), (wo_4_iiiiiiirrrirrrrrir a_this_plan x_this_plan_cycle x_this_plan_green x_this_plan_rule x_this_plan_least x_this_plan_away x_this_plan_statements x_this_plan_kinds a_this_plan_calm a_this_plan_pace a_this_plan_trusts x_this_plan_walkers a_this_plan_kindOf a_this_plan_comesAt a_this_plan_comers a_this_plan_names a_this_plan_code x_this_plan_size a_this_plan_spans), (wi_0_6_0 a_this_now_trusts cy g_this_now_trusts)] H := hP
    replace hD := k_D hP hD
    generalize ef30 : upd f29 (Int32.toNatClampNeg 3) x_this_now_green = f30 at hP hD
    have Ef30 := lf_st ef30 Ef29 (lf_lc 3 (3 : Int) rfl) (lf_rf x_this_now_green)
    refine lv_iconst (v := 0) hx hb dX9_image_59 rfl ?_
    refine lv_istore_n (lv' := [(1, .int 0), (0, .ref a_this)]) hx hb dX9_image_60 rfl hl (Nat.le_of_ble_eq_true rfl) rfl (fun ls hl => ?_)
    exact jn61 8 f30 0 H locs ls (ib_w 0 6 (ib_c 0 0 0 rfl) rfl) (by rw [lf_ua Ef30]; try simp only [show (0 : Int32).toInt = (0 : Int) from rfl]; exact hq) (by have := (ib_c 0 0 0 rfl); unfold ib at this; omega) hP hD hS (lv_sub hl [1, 0] rfl)
set_option maxHeartbeats 4000000 in
set_option maxRecDepth 100000 in
theorem s_X9_check_i1_0_10 (l : Launch) (dC : Nat → ClassId) (dI : Nat → Nat → Nat) (cy : Nat → ClassId) (sq : Nat → Nat) (a_arg0 : Nat) (g_arg0 : Nat → Int32) (p1 : Int32) (hp1 : ib p1 0 10) : k_Met l yX9_check cX9_check 4 (some .int) { frames := 0, cells := 0, slots := 0, locals := 0 } dC dI cy sq [.ref a_arg0, .int p1] [(wi_0_1600_0 a_arg0 cy g_arg0)] (k_Qi dC dI (fun (r : Int32) (_ : Unit) => (F_X9_check_i1_0_10 (lf_A g_arg0) (Int32.toInt p1) = ((Int32.toInt r)))) (fun _ : Unit => [(wi_0_1600_0 a_arg0 cy g_arg0)])) := by
  refine k_ofW2 (by decide +kernel) (Nat.le_of_ble_eq_true rfl) ?_
  intro p e s m below meth c A ls H locs args Q hQ C0 hZ hr hlk hin hP hD hA hS hl
  have C0 : k_cx p s m args c cX9_check 4 RX9 dC dI cy sq := C0
  have hx := C0.1
  have hb := C0.2.1
  have hl : lv_has ls 4 [(0, .ref a_arg0), (1, .int p1)] := hl
  obtain ⟨O, hO⟩ : ∃ o, o = F_X9_check_i1_0_10 (lf_A g_arg0) (Int32.toInt p1) := ⟨_, rfl⟩
  have hq := hO
  unfold F_X9_check_i1_0_10 at hq
  have jn5 : ∀ (n : Nat) (J5_l2 : Int32) (J5_l3 : Int32) (H : Heap) (locs : List Loc) (ls : Array Slot), ib J5_l3 0 10 → (O = F_X9_check_i1_0_10_5 (lf_A g_arg0) (Int32.toInt p1) n (Int32.toInt J5_l2) (Int32.toInt J5_l3)) → 11 ≤ J5_l3.toInt + (n : Int) → va_P (dC, dI) vwCl [(wi_0_1600_0 a_arg0 cy g_arg0)] H → va_D A [(wi_0_1600_0 a_arg0 cy g_arg0)] → va_S A s.heap H locs → lv_has ls 4 [(0, .ref a_arg0), (1, .int p1), (2, .int J5_l2), (3, .int J5_l3)] → W p l e { frames := 0, cells := 0, slots := 0, locals := 0 } s m args below meth c H locs 0 0 Q (F0 m 5 ls []) := by
    as_aux_lemma =>
      intro n
      induction n with
      | zero =>
        intro J5_l2 J5_l3 H locs ls hJ5_l3 hq hm
        exact absurd hm (by have := hJ5_l3; unfold ib at this; omega)
      | succ n ih =>
        intro J5_l2 J5_l3 H locs ls hJ5_l3 hq hm5 hP hD hS hl
        have ih5 := ih
        obtain ⟨K5, hK5⟩ : ∃ K, K = F_X9_check_i1_0_10_5 (lf_A g_arg0) (Int32.toInt p1) n := ⟨_, rfl⟩
        have hq : O = F_X9_check_i1_0_10_5b (lf_A g_arg0) (Int32.toInt p1) K5 (Int32.toInt J5_l2) (Int32.toInt J5_l3) := by rw [hK5]; exact hq
        unfold F_X9_check_i1_0_10_5b at hq
        refine lv_iload_n hx hb dX9_check_5 rfl (lv_at hl 3 rfl) ?_
        refine lv_iload_n hx hb dX9_check_6 rfl (lv_at hl 1 rfl) ?_
        refine lv_icmp_ge (tgt := 28) hx hb dX9_check_7 rfl (fun c1 => ?_) (fun c1 => ?_)
        · replace hq := lf_pos hq (lf_le (lf_rf p1) (lf_rf J5_l3) c1)
          have h2 := ib_le hp1 hJ5_l3 c1
          refine lv_iload_n hx hb dX9_check_28 rfl (lv_at hl 2 rfl) ?_
          subst hQ; exact k_iret hx hb hr hlk rfl () hS ((hO.symm.trans (by exact hq))) hP hD (Nat.le_of_ble_eq_true rfl) (Nat.le_of_ble_eq_true rfl) dX9_check_29
        · as_aux_lemma =>
            replace hq := lf_neg hq (lf_nle (lf_rf p1) (lf_rf J5_l3) c1)
            have h3 := ib_nle hp1 hJ5_l3 c1
            have h4 : ib p1 1 10 := ib_w 1 10 h3.1 rfl
            have h5 : ib J5_l3 0 9 := ib_w 0 9 h3.2 rfl
            refine lv_iconst (v := 3) hx hb dX9_check_10 rfl ?_
            refine lv_iload_n hx hb dX9_check_11 rfl (lv_at hl 2 rfl) ?_
            refine lv_imul hx hb dX9_check_12 ?_
            refine lv_topi (fun z6 ez6 => ?_)
            have Ez6 := lf_op lf_imul ez6 (lf_lc 3 (3 : Int) rfl) (lf_rf J5_l2)
            refine lv_aload_n hx hb dX9_check_13 rfl (lv_at hl 0 rfl) ?_
            refine lv_iload_n hx hb dX9_check_14 rfl (lv_at hl 3 rfl) ?_
            refine va_iald hx hb C0.2.2.2.2.2.1 hP 0 0 rfl rfl (ib_in 1600 h5 rfl) dX9_check_15 ?_
            refine lv_topi (fun z7 ez7 => ?_)
            have Ez7 := lf_ld ez7 (lf_ra g_arg0) (lf_rf J5_l3)
            refine lv_iadd hx hb dX9_check_16 ?_
            refine lv_topi (fun z8 ez8 => ?_)
            have Ez8 := lf_op lf_iadd ez8 Ez6 Ez7
            refine lv_sipush (v := 251) hx hb dX9_check_17 rfl ?_
            refine lv_irem hx hb dX9_check_20 (by decide) ?_
            refine lv_topi (fun z9 ez9 => ?_)
            have Ez9 := lf_op lf_irem ez9 Ez8 (lf_lc 251 (251 : Int) rfl)
            refine lv_istore_n (lv' := [(2, .int z9), (0, .ref a_arg0), (1, .int p1), (3, .int J5_l3)]) hx hb dX9_check_21 rfl hl (Nat.le_of_ble_eq_true rfl) rfl (fun ls hl => ?_)
            obtain ⟨z10, ez10⟩ : ∃ y : Int32, y = J5_l3 + 1 := ⟨_, rfl⟩
            refine lv_iinc (v := z10) (lv' := [(3, .int z10), (2, .int z9), (0, .ref a_arg0), (1, .int p1)]) hx hb dX9_check_22 hl (k := 3) rfl (by rw [ez10]; rfl) (Nat.le_of_ble_eq_true rfl) rfl (fun ls hl => ?_)
            have h11 := ib_add h5 (ib_c 1 1 1 rfl) rfl
            rw [← ez10] at h11
            have h12 : ib z10 1 10 := ib_w 1 10 h11.1 rfl
            have Ez10 := lf_add h11.2 (lf_rf J5_l3) (lf_lc 1 (1 : Int) rfl)
            refine lv_goto (tgt := 5) hx hb dX9_check_25 rfl ?_
            exact ih5 z9 z10 H locs ls (ib_w 0 10 h12 rfl) (by rw [← hK5]; rw [lf_u Ez9]; rw [lf_u Ez10]; exact hq) (by have := h11.2; have : (1 : Int32).toInt = 1 := rfl; omega) hP hD hS (lv_sub hl [2, 3, 1, 0] rfl)
  refine lv_bipush (v := 101) hx hb dX9_check_0 rfl ?_
  refine lv_istore_n (lv' := [(2, .int 101), (0, .ref a_arg0), (1, .int p1)]) hx hb dX9_check_2 rfl hl (Nat.le_of_ble_eq_true rfl) rfl (fun ls hl => ?_)
  refine lv_iconst (v := 0) hx hb dX9_check_3 rfl ?_
  refine lv_istore_n (lv' := [(3, .int 0), (2, .int 101), (0, .ref a_arg0), (1, .int p1)]) hx hb dX9_check_4 rfl hl (Nat.le_of_ble_eq_true rfl) rfl (fun ls hl => ?_)
  exact jn5 12 101 0 H locs ls (ib_w 0 10 (ib_c 0 0 0 rfl) rfl) (by try simp only [show (101 : Int32).toInt = (101 : Int) from rfl]; try simp only [show (0 : Int32).toInt = (0 : Int) from rfl]; exact hq) (by have := (ib_c 0 0 0 rfl); unfold ib at this; omega) hP hD hS (lv_sub hl [2, 3, 1, 0] rfl)
set_option maxHeartbeats 4000000 in
set_option maxRecDepth 100000 in
theorem s_X9_isImage (l : Launch) (dC : Nat → ClassId) (dI : Nat → Nat → Nat) (cy : Nat → ClassId) (sq : Nat → Nat) (a_this : Nat) (a_this_tape : Nat) (g_this_tape : Nat → Int32) (x_this_tapeSize : Int32) (a_this_plan : Nat) (x_this_plan_cycle : Int32) (x_this_plan_green : Int32) (x_this_plan_rule : Int32) (x_this_plan_least : Int32) (x_this_plan_away : Int32) (x_this_plan_statements : Int32) (x_this_plan_kinds : Int32) (a_this_plan_calm : Nat) (a_this_plan_pace : Nat) (a_this_plan_trusts : Nat) (x_this_plan_walkers : Int32) (a_this_plan_kindOf : Nat) (a_this_plan_comesAt : Nat) (a_this_plan_comers : Nat) (a_this_plan_names : Nat) (a_this_plan_code : Nat) (x_this_plan_size : Int32) (a_this_plan_spans : Nat) (a_this_spare : Nat) (a_this_now : Nat) (a_this_history : Nat) (a_this_machine : Nat) (a_this_reader : Nat) (a_this_street : Nat) (a_this_choice : Nat) (a_this_ahead : Nat) (a_this_watch : Nat) (a_this_octets : Nat) (x_this_octetCount : Int32) (a_this_refusals : Nat) (x_this_drawn : Int64) (p0 : Int32) (hg_this_tape : ia g_this_tape 1600 0 255) (hx_this_plan_cycle : ib x_this_plan_cycle 0 120) (hx_this_plan_kinds : ib x_this_plan_kinds 0 6) : k_Met l yX9_isImage cX9_isImage 3 (some .boolean) { frames := 1, cells := 0, slots := 0, locals := 23 } dC dI cy sq [.ref a_this, .int p0] [(wo_9_rirrrrrrrrrrrirl a_this a_this_tape x_this_tapeSize a_this_plan a_this_spare a_this_now a_this_history a_this_machine a_this_reader a_this_street a_this_choice a_this_ahead a_this_watch a_this_octets x_this_octetCount a_this_refusals x_this_drawn), (wo_4_iiiiiiirrrirrrrrir a_this_plan x_this_plan_cycle x_this_plan_green x_this_plan_rule x_this_plan_least x_this_plan_away x_this_plan_statements x_this_plan_kinds a_this_plan_calm a_this_plan_pace a_this_plan_trusts x_this_plan_walkers a_this_plan_kindOf a_this_plan_comesAt a_this_plan_comers a_this_plan_names a_this_plan_code x_this_plan_size a_this_plan_spans), (wi_0_1600_0 a_this_tape cy g_this_tape)] (k_Qi dC dI (fun (r : Int32) (_ : Unit) => ib r 0 1 ∧ (¬ r = 0 → ib x_this_plan_cycle 2 120) ∧ (¬ r = 0 → ib p0 5 11) ∧ (F_X9_isImage (lf_A g_this_tape) (Int32.toInt x_this_plan_cycle) (Int32.toInt x_this_plan_kinds) (Int32.toInt p0) = ((Int32.toInt r)))) (fun _ : Unit => [(wo_9_rirrrrrrrrrrrirl a_this a_this_tape x_this_tapeSize a_this_plan a_this_spare a_this_now a_this_history a_this_machine a_this_reader a_this_street a_this_choice a_this_ahead a_this_watch a_this_octets x_this_octetCount a_this_refusals x_this_drawn), (wo_4_iiiiiiirrrirrrrrir a_this_plan x_this_plan_cycle x_this_plan_green x_this_plan_rule x_this_plan_least x_this_plan_away x_this_plan_statements x_this_plan_kinds a_this_plan_calm a_this_plan_pace a_this_plan_trusts x_this_plan_walkers a_this_plan_kindOf a_this_plan_comesAt a_this_plan_comers a_this_plan_names a_this_plan_code x_this_plan_size a_this_plan_spans), (wi_0_1600_0 a_this_tape cy g_this_tape)])) := by
  refine k_ofW2 (by decide +kernel) (Nat.le_of_ble_eq_true rfl) ?_
  intro p e s m below meth c A ls H locs args Q hQ C0 hZ hr hlk hin hP hD hA hS hl
  have C0 : k_cx p s m args c cX9_isImage 3 RX9 dC dI cy sq := C0
  have hx := C0.1
  have hb := C0.2.1
  have hl : lv_has ls 3 [(0, .ref a_this), (1, .int p0)] := hl
  obtain ⟨O, hO⟩ : ∃ o, o = F_X9_isImage (lf_A g_this_tape) (Int32.toInt x_this_plan_cycle) (Int32.toInt x_this_plan_kinds) (Int32.toInt p0) := ⟨_, rfl⟩
  have hq := hO
  unfold F_X9_isImage at hq
  have jn130 : ∀ (J130_l2 : Int32) (H : Heap) (locs : List Loc) (ls : Array Slot), ib p0 5 11 → ib x_this_plan_cycle 1 120 → ib J130_l2 0 6 → (O = F_X9_isImage_130 (Int32.toInt J130_l2)) → va_P (dC, dI) vwCl [(wo_9_rirrrrrrrrrrrirl a_this a_this_tape x_this_tapeSize a_this_plan a_this_spare a_this_now a_this_history a_this_machine a_this_reader a_this_street a_this_choice a_this_ahead a_this_watch a_this_octets x_this_octetCount a_this_refusals x_this_drawn), (wo_4_iiiiiiirrrirrrrrir a_this_plan x_this_plan_cycle x_this_plan_green x_this_plan_rule x_this_plan_least x_this_plan_away x_this_plan_statements x_this_plan_kinds a_this_plan_calm a_this_plan_pace a_this_plan_trusts x_this_plan_walkers a_this_plan_kindOf a_this_plan_comesAt a_this_plan_comers a_this_plan_names a_this_plan_code x_this_plan_size a_this_plan_spans), (wi_0_1600_0 a_this_tape cy g_this_tape)] H → va_D A [(wo_9_rirrrrrrrrrrrirl a_this a_this_tape x_this_tapeSize a_this_plan a_this_spare a_this_now a_this_history a_this_machine a_this_reader a_this_street a_this_choice a_this_ahead a_this_watch a_this_octets x_this_octetCount a_this_refusals x_this_drawn), (wo_4_iiiiiiirrrirrrrrir a_this_plan x_this_plan_cycle x_this_plan_green x_this_plan_rule x_this_plan_least x_this_plan_away x_this_plan_statements x_this_plan_kinds a_this_plan_calm a_this_plan_pace a_this_plan_trusts x_this_plan_walkers a_this_plan_kindOf a_this_plan_comesAt a_this_plan_comers a_this_plan_names a_this_plan_code x_this_plan_size a_this_plan_spans), (wi_0_1600_0 a_this_tape cy g_this_tape)] → va_S A s.heap H locs → lv_has ls 3 [(0, .ref a_this), (1, .int p0), (2, .int J130_l2)] → W p l e { frames := 1, cells := 0, slots := 0, locals := 23 } s m args below meth c H locs 0 0 Q (F0 m 130 ls []) := by
    intro J130_l2 H locs ls hK130_p0 hK130_x_this_plan_cycle hJ130_l2 hq hP hD hS hl
    unfold F_X9_isImage_130 at hq
    refine lv_iconst (v := 0) hx hb dX9_isImage_130 rfl ?_
    subst hQ; exact k_iret hx hb hr hlk (k_nb 0 rfl) () hS ⟨ib_w 0 1 (ib_c 0 0 0 rfl) rfl, fun hq9 => absurd rfl hq9, fun hq9 => absurd rfl hq9, (hO.symm.trans (by try simp only [show (0 : Int32).toInt = (0 : Int) from rfl]; exact hq))⟩ hP hD (Nat.le_of_ble_eq_true rfl) (Nat.le_of_ble_eq_true rfl) dX9_isImage_131
  have jn24 : ∀ (n : Nat) (J24_l2 : Int32) (H : Heap) (locs : List Loc) (ls : Array Slot), ib p0 5 11 → ib x_this_plan_cycle 1 120 → ib J24_l2 0 6 → (O = F_X9_isImage_24 (lf_A g_this_tape) (Int32.toInt x_this_plan_cycle) (Int32.toInt x_this_plan_kinds) (Int32.toInt p0) n (Int32.toInt J24_l2)) → 7 ≤ J24_l2.toInt + (n : Int) → va_P (dC, dI) vwCl [(wo_9_rirrrrrrrrrrrirl a_this a_this_tape x_this_tapeSize a_this_plan a_this_spare a_this_now a_this_history a_this_machine a_this_reader a_this_street a_this_choice a_this_ahead a_this_watch a_this_octets x_this_octetCount a_this_refusals x_this_drawn), (wo_4_iiiiiiirrrirrrrrir a_this_plan x_this_plan_cycle x_this_plan_green x_this_plan_rule x_this_plan_least x_this_plan_away x_this_plan_statements x_this_plan_kinds a_this_plan_calm a_this_plan_pace a_this_plan_trusts x_this_plan_walkers a_this_plan_kindOf a_this_plan_comesAt a_this_plan_comers a_this_plan_names a_this_plan_code x_this_plan_size a_this_plan_spans), (wi_0_1600_0 a_this_tape cy g_this_tape)] H → va_D A [(wo_9_rirrrrrrrrrrrirl a_this a_this_tape x_this_tapeSize a_this_plan a_this_spare a_this_now a_this_history a_this_machine a_this_reader a_this_street a_this_choice a_this_ahead a_this_watch a_this_octets x_this_octetCount a_this_refusals x_this_drawn), (wo_4_iiiiiiirrrirrrrrir a_this_plan x_this_plan_cycle x_this_plan_green x_this_plan_rule x_this_plan_least x_this_plan_away x_this_plan_statements x_this_plan_kinds a_this_plan_calm a_this_plan_pace a_this_plan_trusts x_this_plan_walkers a_this_plan_kindOf a_this_plan_comesAt a_this_plan_comers a_this_plan_names a_this_plan_code x_this_plan_size a_this_plan_spans), (wi_0_1600_0 a_this_tape cy g_this_tape)] → va_S A s.heap H locs → lv_has ls 3 [(0, .ref a_this), (1, .int p0), (2, .int J24_l2)] → W p l e { frames := 1, cells := 0, slots := 0, locals := 23 } s m args below meth c H locs 0 0 Q (F0 m 24 ls []) := by
    as_aux_lemma =>
      intro n
      induction n with
      | zero =>
        intro J24_l2 H locs ls hK24_p0 hK24_x_this_plan_cycle hJ24_l2 hq hm
        exact absurd hm (by have := hJ24_l2; unfold ib at this; omega)
      | succ n ih =>
        intro J24_l2 H locs ls hK24_p0 hK24_x_this_plan_cycle hJ24_l2 hq hm24 hP hD hS hl
        have ih24 := ih
        obtain ⟨K24, hK24⟩ : ∃ K, K = F_X9_isImage_24 (lf_A g_this_tape) (Int32.toInt x_this_plan_cycle) (Int32.toInt x_this_plan_kinds) (Int32.toInt p0) n := ⟨_, rfl⟩
        have hq : O = F_X9_isImage_24b (lf_A g_this_tape) (Int32.toInt x_this_plan_cycle) (Int32.toInt x_this_plan_kinds) (Int32.toInt p0) K24 (Int32.toInt J24_l2) := by rw [hK24]; exact hq
        unfold F_X9_isImage_24b at hq
        refine lv_iload_n hx hb dX9_isImage_24 rfl (lv_at hl 2 rfl) ?_
        refine lv_aload_n hx hb dX9_isImage_25 rfl (lv_at hl 0 rfl) ?_
        refine k_get C0 fg_X9_20 hP 0 rfl rfl dX9_isImage_26 ?_
        refine k_get C0 fg_X9_148 hP 1 rfl rfl dX9_isImage_29 ?_
        refine lv_icmp_ge (tgt := 56) hx hb dX9_isImage_32 rfl (fun c1 => ?_) (fun c1 => ?_)
        · as_aux_lemma =>
            replace hq := lf_pos hq (lf_le (lf_rf x_this_plan_kinds) (lf_rf J24_l2) c1)
            have h2 := ib_le hx_this_plan_kinds hJ24_l2 c1
            refine lv_aload_n hx hb dX9_isImage_56 rfl (lv_at hl 0 rfl) ?_
            refine k_get C0 fg_X9_9 hP 0 rfl rfl dX9_isImage_57 ?_
            refine lv_iconst (v := 0) hx hb dX9_isImage_60 rfl ?_
            refine va_iald hx hb C0.2.2.2.2.2.1 hP 2 0 rfl rfl (k_in 0 1600 rfl) dX9_isImage_61 ?_
            refine lv_topi (fun z3 ez3 => ?_)
            have h4 : ib z3 0 255 := by rw [ez3]; exact ia_at hg_this_tape (k_in 0 1600 rfl)
            have Ez3 := lf_ld ez3 (lf_ra g_this_tape) (lf_lc 0 (0 : Int) rfl)
            refine lv_sipush (v := 256) hx hb dX9_isImage_62 rfl ?_
            refine lv_imul hx hb dX9_isImage_65 ?_
            refine lv_topi (fun z5 ez5 => ?_)
            have h6 := ib_mul h4 (ib_c 256 256 256 rfl) rfl
            rw [← ez5] at h6
            have h7 : ib z5 0 65280 := ib_w 0 65280 h6.1 rfl
            have Ez5 := lf_mul h6.2 Ez3 (lf_lc 256 (256 : Int) rfl)
            refine lv_aload_n hx hb dX9_isImage_66 rfl (lv_at hl 0 rfl) ?_
            refine k_get C0 fg_X9_9 hP 0 rfl rfl dX9_isImage_67 ?_
            refine lv_iconst (v := 1) hx hb dX9_isImage_70 rfl ?_
            refine va_iald hx hb C0.2.2.2.2.2.1 hP 2 0 rfl rfl (k_in 1 1600 rfl) dX9_isImage_71 ?_
            refine lv_topi (fun z8 ez8 => ?_)
            have h9 : ib z8 0 255 := by rw [ez8]; exact ia_at hg_this_tape (k_in 1 1600 rfl)
            have Ez8 := lf_ld ez8 (lf_ra g_this_tape) (lf_lc 1 (1 : Int) rfl)
            refine lv_iadd hx hb dX9_isImage_72 ?_
            refine lv_topi (fun z10 ez10 => ?_)
            have h11 := ib_add h7 h9 rfl
            rw [← ez10] at h11
            have h12 : ib z10 0 65535 := ib_w 0 65535 h11.1 rfl
            have Ez10 := lf_add h11.2 Ez5 Ez8
            refine lv_sipush (v := 999) hx hb dX9_isImage_73 rfl ?_
            as_aux_lemma =>
              refine lv_icmp_gt (tgt := 130) hx hb dX9_isImage_76 rfl (fun c13 => ?_) (fun c13 => ?_)
              · replace hq := lf_pos hq (lf_lt (lf_lc 999 (999 : Int) rfl) Ez10 c13)
                have h14 := ib_lt (ib_c 999 999 999 rfl) h12 c13
                have h15 : ib z10 1000 65535 := ib_w 1000 65535 h14.2 rfl
                exact jn130 J24_l2 H locs ls (ib_w 5 11 hK24_p0 rfl) (ib_w 1 120 hK24_x_this_plan_cycle rfl) (ib_w 0 6 hJ24_l2 rfl) (by exact hq) hP hD hS (lv_sub hl [0, 1, 2] rfl)
              · as_aux_lemma =>
                  replace hq := lf_neg hq (lf_nlt (lf_lc 999 (999 : Int) rfl) Ez10 c13)
                  have h16 := ib_nlt (ib_c 999 999 999 rfl) h12 c13
                  have h17 : ib z10 0 999 := ib_w 0 999 h16.2 rfl
                  refine lv_aload_n hx hb dX9_isImage_79 rfl (lv_at hl 0 rfl) ?_
                  refine k_get C0 fg_X9_9 hP 0 rfl rfl dX9_isImage_80 ?_
                  refine lv_iconst (v := 2) hx hb dX9_isImage_83 rfl ?_
                  refine va_iald hx hb C0.2.2.2.2.2.1 hP 2 0 rfl rfl (k_in 2 1600 rfl) dX9_isImage_84 ?_
                  refine lv_topi (fun z18 ez18 => ?_)
                  have h19 : ib z18 0 255 := by rw [ez18]; exact ia_at hg_this_tape (k_in 2 1600 rfl)
                  have Ez18 := lf_ld ez18 (lf_ra g_this_tape) (lf_lc 2 (2 : Int) rfl)
                  refine lv_iconst (v := 3) hx hb dX9_isImage_85 rfl ?_
                  refine lv_icmp_ge (tgt := 130) hx hb dX9_isImage_86 rfl (fun c20 => ?_) (fun c20 => ?_)
                  · replace hq := lf_pos hq (lf_le (lf_lc 3 (3 : Int) rfl) Ez18 c20)
                    have h21 := ib_le (ib_c 3 3 3 rfl) h19 c20
                    have h22 : ib z18 3 255 := ib_w 3 255 h21.2 rfl
                    exact jn130 J24_l2 H locs ls (ib_w 5 11 hK24_p0 rfl) (ib_w 1 120 hK24_x_this_plan_cycle rfl) (ib_w 0 6 hJ24_l2 rfl) (by exact hq) hP hD hS (lv_sub hl [0, 1, 2] rfl)
                  · as_aux_lemma =>
                      replace hq := lf_neg hq (lf_nle (lf_lc 3 (3 : Int) rfl) Ez18 c20)
                      have h23 := ib_nle (ib_c 3 3 3 rfl) h19 c20
                      have h24 : ib z18 0 2 := ib_w 0 2 h23.2 rfl
                      refine lv_aload_n hx hb dX9_isImage_89 rfl (lv_at hl 0 rfl) ?_
                      refine k_get C0 fg_X9_20 hP 0 rfl rfl dX9_isImage_90 ?_
                      refine lv_aload_n hx hb dX9_isImage_93 rfl (lv_at hl 0 rfl) ?_
                      refine k_get C0 fg_X9_9 hP 0 rfl rfl dX9_isImage_94 ?_
                      refine lv_iconst (v := 3) hx hb dX9_isImage_97 rfl ?_
                      refine va_iald hx hb C0.2.2.2.2.2.1 hP 2 0 rfl rfl (k_in 3 1600 rfl) dX9_isImage_98 ?_
                      refine lv_topi (fun z25 ez25 => ?_)
                      have h26 : ib z25 0 255 := by rw [ez25]; exact ia_at hg_this_tape (k_in 3 1600 rfl)
                      have Ez25 := lf_ld ez25 (lf_ra g_this_tape) (lf_lc 3 (3 : Int) rfl)
                      refine k_jim hP hD hS hA [1] [true, false, true] rfl rfl rfl 0 0 (Nat.le_of_ble_eq_true rfl) (Nat.le_of_ble_eq_true rfl) (fun hPc hDc => k_runV (As := [.int z25]) (rest := []) C0 hZ hS hA (s_X4_allowsGreen l dC dI cy sq a_this_plan x_this_plan_cycle x_this_plan_green x_this_plan_rule x_this_plan_least x_this_plan_away x_this_plan_statements x_this_plan_kinds a_this_plan_calm a_this_plan_pace a_this_plan_trusts x_this_plan_walkers a_this_plan_kindOf a_this_plan_comesAt a_this_plan_comers a_this_plan_names a_this_plan_code x_this_plan_size a_this_plan_spans z25 (ib_w 0 120 hK24_x_this_plan_cycle rfl)) mV_X9_284 hPc hDc rfl rfl rfl hl rfl rfl (Nat.le_of_ble_eq_true rfl) ⟨(Nat.le_of_ble_eq_true rfl), (Nat.le_of_ble_eq_true rfl)⟩ ⟨(Nat.le_of_ble_eq_true rfl), (Nat.le_of_ble_eq_true rfl)⟩ dX9_isImage_99) (fun r27 u28 H locs hw hP hD hS => ?_)
                      try dsimp only at hP hD hw
                      replace hP : va_P (dC, dI) vwCl [(wo_9_rirrrrrrrrrrrirl a_this a_this_tape x_this_tapeSize a_this_plan a_this_spare a_this_now a_this_history a_this_machine a_this_reader a_this_street a_this_choice a_this_ahead a_this_watch a_this_octets x_this_octetCount a_this_refusals x_this_drawn), (wi_0_1600_0 a_this_tape cy g_this_tape), (wo_4_iiiiiiirrrirrrrrir a_this_plan x_this_plan_cycle x_this_plan_green x_this_plan_rule x_this_plan_least x_this_plan_away x_this_plan_statements x_this_plan_kinds a_this_plan_calm a_this_plan_pace a_this_plan_trusts x_this_plan_walkers a_this_plan_kindOf a_this_plan_comesAt a_this_plan_comers a_this_plan_names a_this_plan_code x_this_plan_size a_this_plan_spans)] H := hP
                      replace hD := k_D hP hD
                      obtain ⟨h29, h30, h31, h32⟩ := hw
                      have h32 := by have h9 := h32; rw [lf_u Ez25] at h9; exact h9
                      replace hq := lf_b1 hq h32
                      refine lv_if_eq (tgt := 130) hx hb dX9_isImage_102 rfl (fun c33 => ?_) (fun c33 => ?_)
                      · replace hq := lf_pos hq (lf_eq (lf_rf r27) (lf_lc 0 (0 : Int) rfl) c33)
                        have h34 := ib_eq h29 (ib_c 0 0 0 rfl) c33
                        have h35 : ib r27 0 0 := ib_w 0 0 h34.1 rfl
                        exact jn130 J24_l2 H locs ls (ib_w 5 11 hK24_p0 rfl) (ib_w 1 120 hK24_x_this_plan_cycle rfl) (ib_w 0 6 hJ24_l2 rfl) (by exact hq) (hP.sub [0, 2, 1] rfl) (hD.sub [0, 2, 1] rfl rfl) hS (lv_sub hl [0, 1, 2] rfl)
                      · as_aux_lemma =>
                          replace hq := lf_neg hq (lf_ne (lf_rf r27) (lf_lc 0 (0 : Int) rfl) c33)
                          have h36 : ib r27 1 1 := ib_w 1 1 (ib_ne_lo 0 h29 rfl c33) rfl
                          have h37 : ib x_this_plan_cycle 2 120 := ib_w 2 120 (ib_two hK24_x_this_plan_cycle (h30 c33)) rfl
                          have h38 : ib z25 1 60 := ib_w 1 60 (ib_two h26 (h31 c33)) rfl
                          refine lv_aload_n hx hb dX9_isImage_105 rfl (lv_at hl 0 rfl) ?_
                          refine k_get C0 fg_X9_9 hP 0 rfl rfl dX9_isImage_106 ?_
                          refine lv_iload_n hx hb dX9_isImage_109 rfl (lv_at hl 1 rfl) ?_
                          refine lv_iconst (v := 1) hx hb dX9_isImage_110 rfl ?_
                          refine lv_isub hx hb dX9_isImage_111 ?_
                          refine lv_topi (fun z39 ez39 => ?_)
                          have h40 := ib_sub hK24_p0 (ib_c 1 1 1 rfl) rfl
                          rw [← ez39] at h40
                          have h41 : ib z39 4 10 := ib_w 4 10 h40.1 rfl
                          have Ez39 := lf_sub h40.2 (lf_rf p0) (lf_lc 1 (1 : Int) rfl)
                          refine va_iald hx hb C0.2.2.2.2.2.1 hP 1 0 rfl rfl (ib_in 1600 h41 rfl) dX9_isImage_112 ?_
                          refine lv_topi (fun z42 ez42 => ?_)
                          have h43 : ib z42 0 255 := by rw [ez42]; exact ia_at hg_this_tape (ib_in 1600 h41 rfl)
                          have Ez42 := lf_ld ez42 (lf_ra g_this_tape) Ez39
                          refine lv_aload_n hx hb dX9_isImage_113 rfl (lv_at hl 0 rfl) ?_
                          refine k_get C0 fg_X9_9 hP 0 rfl rfl dX9_isImage_114 ?_
                          refine lv_iload_n hx hb dX9_isImage_117 rfl (lv_at hl 1 rfl) ?_
                          refine lv_iconst (v := 1) hx hb dX9_isImage_118 rfl ?_
                          refine lv_isub hx hb dX9_isImage_119 ?_
                          refine lv_topi (fun z44 ez44 => ?_)
                          obtain rfl : z39 = z44 := ez39.trans ez44.symm
                          refine k_jim hP hD hS hA [1] [true, false, true] rfl rfl rfl 0 0 (Nat.le_of_ble_eq_true rfl) (Nat.le_of_ble_eq_true rfl) (fun hPc hDc => k_runS (As := [.ref a_this_tape, .int z39]) (rest := [.int z42]) C0 hZ hS hA (s_X9_check_i1_0_10 l dC dI cy sq a_this_tape g_this_tape z39 (ib_w 0 10 h41 rfl)) mS_X9_319 hPc hDc hl rfl rfl (Nat.le_of_ble_eq_true rfl) ⟨(Nat.le_of_ble_eq_true rfl), (Nat.le_of_ble_eq_true rfl)⟩ ⟨(Nat.le_of_ble_eq_true rfl), (Nat.le_of_ble_eq_true rfl)⟩ dX9_isImage_120) (fun r45 u46 H locs hw hP hD hS => ?_)
                          try dsimp only at hP hD hw
                          replace hP : va_P (dC, dI) vwCl [(wo_9_rirrrrrrrrrrrirl a_this a_this_tape x_this_tapeSize a_this_plan a_this_spare a_this_now a_this_history a_this_machine a_this_reader a_this_street a_this_choice a_this_ahead a_this_watch a_this_octets x_this_octetCount a_this_refusals x_this_drawn), (wo_4_iiiiiiirrrirrrrrir a_this_plan x_this_plan_cycle x_this_plan_green x_this_plan_rule x_this_plan_least x_this_plan_away x_this_plan_statements x_this_plan_kinds a_this_plan_calm a_this_plan_pace a_this_plan_trusts x_this_plan_walkers a_this_plan_kindOf a_this_plan_comesAt a_this_plan_comers a_this_plan_names a_this_plan_code x_this_plan_size a_this_plan_spans), (wi_0_1600_0 a_this_tape cy g_this_tape)] H := hP
                          replace hD := k_D hP hD
                          have h47 := hw
                          have h47 := by have h9 := h47; rw [lf_u Ez39] at h9; exact h9
                          replace hq := lf_b1 hq h47
                          refine lv_icmp_ne (tgt := 130) hx hb dX9_isImage_123 rfl (fun c48 => ?_) (fun c48 => ?_)
                          · replace hq := lf_neg hq (lf_ne Ez42 (lf_rf r45) c48)
                            exact jn130 J24_l2 H locs ls (ib_w 5 11 hK24_p0 rfl) (ib_w 1 120 h37 rfl) (ib_w 0 6 hJ24_l2 rfl) (by exact hq) hP hD hS (lv_sub hl [0, 1, 2] rfl)
                          · replace hq := lf_pos hq (lf_eq Ez42 (lf_rf r45) c48)
                            have h49 := ib_eq h43 (ib_any r45) c48
                            have h50 : ib r45 0 255 := ib_w 0 255 h49.2 rfl
                            refine lv_iconst (v := 1) hx hb dX9_isImage_126 rfl ?_
                            refine lv_goto (tgt := 131) hx hb dX9_isImage_127 rfl ?_
                            subst hQ; exact k_iret hx hb hr hlk (k_nb 1 rfl) () hS ⟨ib_w 0 1 (ib_c 1 1 1 rfl) rfl, fun _ => ib_w 2 120 h37 rfl, fun _ => ib_w 5 11 hK24_p0 rfl, (hO.symm.trans (by try simp only [show (1 : Int32).toInt = (1 : Int) from rfl]; exact hq))⟩ hP hD (Nat.le_of_ble_eq_true rfl) (Nat.le_of_ble_eq_true rfl) dX9_isImage_131
        · as_aux_lemma =>
            replace hq := lf_neg hq (lf_nle (lf_rf x_this_plan_kinds) (lf_rf J24_l2) c1)
            have h51 := ib_nle hx_this_plan_kinds hJ24_l2 c1
            have h52 : ib x_this_plan_kinds 1 6 := ib_w 1 6 h51.1 rfl
            have h53 : ib J24_l2 0 5 := ib_w 0 5 h51.2 rfl
            refine lv_aload_n hx hb dX9_isImage_35 rfl (lv_at hl 0 rfl) ?_
            refine k_get C0 fg_X9_9 hP 0 rfl rfl dX9_isImage_36 ?_
            refine lv_iconst (v := 4) hx hb dX9_isImage_39 rfl ?_
            refine lv_iload_n hx hb dX9_isImage_40 rfl (lv_at hl 2 rfl) ?_
            refine lv_iadd hx hb dX9_isImage_41 ?_
            refine lv_topi (fun z54 ez54 => ?_)
            have h55 := ib_add (ib_c 4 4 4 rfl) h53 rfl
            rw [← ez54] at h55
            have h56 : ib z54 4 9 := ib_w 4 9 h55.1 rfl
            have Ez54 := lf_add h55.2 (lf_lc 4 (4 : Int) rfl) (lf_rf J24_l2)
            refine va_iald hx hb C0.2.2.2.2.2.1 hP 2 0 rfl rfl (ib_in 1600 h56 rfl) dX9_isImage_42 ?_
            refine lv_topi (fun z57 ez57 => ?_)
            have h58 : ib z57 0 255 := by rw [ez57]; exact ia_at hg_this_tape (ib_in 1600 h56 rfl)
            have Ez57 := lf_ld ez57 (lf_ra g_this_tape) Ez54
            refine lv_bipush (v := 9) hx hb dX9_isImage_43 rfl ?_
            refine lv_icmp_le (tgt := 50) hx hb dX9_isImage_45 rfl (fun c59 => ?_) (fun c59 => ?_)
            · replace hq := lf_pos hq (lf_le Ez57 (lf_lc 9 (9 : Int) rfl) c59)
              have h60 := ib_le h58 (ib_c 9 9 9 rfl) c59
              have h61 : ib z57 0 9 := ib_w 0 9 h60.1 rfl
              obtain ⟨z62, ez62⟩ : ∃ y : Int32, y = J24_l2 + 1 := ⟨_, rfl⟩
              refine lv_iinc (v := z62) (lv' := [(2, .int z62), (0, .ref a_this), (1, .int p0)]) hx hb dX9_isImage_50 hl (k := 2) rfl (by rw [ez62]; rfl) (Nat.le_of_ble_eq_true rfl) rfl (fun ls hl => ?_)
              have h63 := ib_add h53 (ib_c 1 1 1 rfl) rfl
              rw [← ez62] at h63
              have h64 : ib z62 1 6 := ib_w 1 6 h63.1 rfl
              have Ez62 := lf_add h63.2 (lf_rf J24_l2) (lf_lc 1 (1 : Int) rfl)
              refine lv_goto (tgt := 24) hx hb dX9_isImage_53 rfl ?_
              exact ih24 z62 H locs ls (ib_w 5 11 hK24_p0 rfl) (ib_w 1 120 hK24_x_this_plan_cycle rfl) (ib_w 0 6 h64 rfl) (by rw [← hK24]; rw [lf_u Ez62]; exact hq) (by have := h63.2; have : (1 : Int32).toInt = 1 := rfl; omega) hP hD hS (lv_sub hl [1, 2, 0] rfl)
            · replace hq := lf_neg hq (lf_nle Ez57 (lf_lc 9 (9 : Int) rfl) c59)
              have h65 := ib_nle h58 (ib_c 9 9 9 rfl) c59
              have h66 : ib z57 10 255 := ib_w 10 255 h65.1 rfl
              refine lv_iconst (v := 0) hx hb dX9_isImage_48 rfl ?_
              subst hQ; exact k_iret hx hb hr hlk (k_nb 0 rfl) () hS ⟨ib_w 0 1 (ib_c 0 0 0 rfl) rfl, fun hq9 => absurd rfl hq9, fun hq9 => absurd rfl hq9, (hO.symm.trans (by try simp only [show (0 : Int32).toInt = (0 : Int) from rfl]; exact hq))⟩ hP hD (Nat.le_of_ble_eq_true rfl) (Nat.le_of_ble_eq_true rfl) dX9_isImage_49
  have jn20 : ∀  (H : Heap) (locs : List Loc) (ls : Array Slot), (O = F_X9_isImage_20 ) → va_P (dC, dI) vwCl [(wo_9_rirrrrrrrrrrrirl a_this a_this_tape x_this_tapeSize a_this_plan a_this_spare a_this_now a_this_history a_this_machine a_this_reader a_this_street a_this_choice a_this_ahead a_this_watch a_this_octets x_this_octetCount a_this_refusals x_this_drawn), (wo_4_iiiiiiirrrirrrrrir a_this_plan x_this_plan_cycle x_this_plan_green x_this_plan_rule x_this_plan_least x_this_plan_away x_this_plan_statements x_this_plan_kinds a_this_plan_calm a_this_plan_pace a_this_plan_trusts x_this_plan_walkers a_this_plan_kindOf a_this_plan_comesAt a_this_plan_comers a_this_plan_names a_this_plan_code x_this_plan_size a_this_plan_spans), (wi_0_1600_0 a_this_tape cy g_this_tape)] H → va_D A [(wo_9_rirrrrrrrrrrrirl a_this a_this_tape x_this_tapeSize a_this_plan a_this_spare a_this_now a_this_history a_this_machine a_this_reader a_this_street a_this_choice a_this_ahead a_this_watch a_this_octets x_this_octetCount a_this_refusals x_this_drawn), (wo_4_iiiiiiirrrirrrrrir a_this_plan x_this_plan_cycle x_this_plan_green x_this_plan_rule x_this_plan_least x_this_plan_away x_this_plan_statements x_this_plan_kinds a_this_plan_calm a_this_plan_pace a_this_plan_trusts x_this_plan_walkers a_this_plan_kindOf a_this_plan_comesAt a_this_plan_comers a_this_plan_names a_this_plan_code x_this_plan_size a_this_plan_spans), (wi_0_1600_0 a_this_tape cy g_this_tape)] → va_S A s.heap H locs → lv_has ls 3 [(0, .ref a_this), (1, .int p0)] → W p l e { frames := 1, cells := 0, slots := 0, locals := 23 } s m args below meth c H locs 0 0 Q (F0 m 20 ls []) := by
    intro H locs ls hq hP hD hS hl
    unfold F_X9_isImage_20 at hq
    refine lv_iconst (v := 0) hx hb dX9_isImage_20 rfl ?_
    subst hQ; exact k_iret hx hb hr hlk (k_nb 0 rfl) () hS ⟨ib_w 0 1 (ib_c 0 0 0 rfl) rfl, fun hq9 => absurd rfl hq9, fun hq9 => absurd rfl hq9, (hO.symm.trans (by try simp only [show (0 : Int32).toInt = (0 : Int) from rfl]; exact hq))⟩ hP hD (Nat.le_of_ble_eq_true rfl) (Nat.le_of_ble_eq_true rfl) dX9_isImage_21
  refine lv_aload_n hx hb dX9_isImage_0 rfl (lv_at hl 0 rfl) ?_
  refine k_jim hP hD hS hA [0, 1] [false, false, true] rfl rfl rfl 0 0 (Nat.le_of_ble_eq_true rfl) (Nat.le_of_ble_eq_true rfl) (fun hPc hDc => k_runV (As := []) (rest := []) C0 hZ hS hA (s_X9_stands l dC dI cy sq a_this a_this_tape x_this_tapeSize a_this_plan x_this_plan_cycle x_this_plan_green x_this_plan_rule x_this_plan_least x_this_plan_away x_this_plan_statements x_this_plan_kinds a_this_plan_calm a_this_plan_pace a_this_plan_trusts x_this_plan_walkers a_this_plan_kindOf a_this_plan_comesAt a_this_plan_comers a_this_plan_names a_this_plan_code x_this_plan_size a_this_plan_spans a_this_spare a_this_now a_this_history a_this_machine a_this_reader a_this_street a_this_choice a_this_ahead a_this_watch a_this_octets x_this_octetCount a_this_refusals x_this_drawn (ib_w 0 120 hx_this_plan_cycle rfl)) mV_X9_218 hPc hDc rfl rfl rfl hl rfl rfl (Nat.le_of_ble_eq_true rfl) ⟨(Nat.le_of_ble_eq_true rfl), (Nat.le_of_ble_eq_true rfl)⟩ ⟨(Nat.le_of_ble_eq_true rfl), (Nat.le_of_ble_eq_true rfl)⟩ dX9_isImage_1) (fun r67 u68 H locs hw hP hD hS => ?_)
  try dsimp only at hP hD hw
  replace hP : va_P (dC, dI) vwCl [(wi_0_1600_0 a_this_tape cy g_this_tape), (wo_9_rirrrrrrrrrrrirl a_this a_this_tape x_this_tapeSize a_this_plan a_this_spare a_this_now a_this_history a_this_machine a_this_reader a_this_street a_this_choice a_this_ahead a_this_watch a_this_octets x_this_octetCount a_this_refusals x_this_drawn), (wo_4_iiiiiiirrrirrrrrir a_this_plan x_this_plan_cycle x_this_plan_green x_this_plan_rule x_this_plan_least x_this_plan_away x_this_plan_statements x_this_plan_kinds a_this_plan_calm a_this_plan_pace a_this_plan_trusts x_this_plan_walkers a_this_plan_kindOf a_this_plan_comesAt a_this_plan_comers a_this_plan_names a_this_plan_code x_this_plan_size a_this_plan_spans)] H := hP
  replace hD := k_D hP hD
  obtain ⟨h69, h70, h71⟩ := hw
  replace hq := lf_b1 hq h71
  refine lv_if_eq (tgt := 20) hx hb dX9_isImage_4 rfl (fun c72 => ?_) (fun c72 => ?_)
  · replace hq := lf_pos hq (lf_eq (lf_rf r67) (lf_lc 0 (0 : Int) rfl) c72)
    have h73 := ib_eq h69 (ib_c 0 0 0 rfl) c72
    have h74 : ib r67 0 0 := ib_w 0 0 h73.1 rfl
    exact jn20  H locs ls (by exact hq) (hP.sub [1, 2, 0] rfl) (hD.sub [1, 2, 0] rfl rfl) hS (lv_sub hl [0, 1] rfl)
  · as_aux_lemma =>
      replace hq := lf_neg hq (lf_ne (lf_rf r67) (lf_lc 0 (0 : Int) rfl) c72)
      have h75 : ib r67 1 1 := ib_w 1 1 (ib_ne_lo 0 h69 rfl c72) rfl
      have h76 : ib x_this_plan_cycle 1 120 := ib_w 1 120 (ib_two hx_this_plan_cycle (h70 c72)) rfl
      refine lv_iload_n hx hb dX9_isImage_7 rfl (lv_at hl 1 rfl) ?_
      refine lv_aload_n hx hb dX9_isImage_8 rfl (lv_at hl 0 rfl) ?_
      refine k_get C0 fg_X9_20 hP 1 rfl rfl dX9_isImage_9 ?_
      refine k_get C0 fg_X9_148 hP 2 rfl rfl dX9_isImage_12 ?_
      refine lv_iconst (v := 5) hx hb dX9_isImage_15 rfl ?_
      refine lv_iadd hx hb dX9_isImage_16 ?_
      refine lv_topi (fun z77 ez77 => ?_)
      have h78 := ib_add hx_this_plan_kinds (ib_c 5 5 5 rfl) rfl
      rw [← ez77] at h78
      have h79 : ib z77 5 11 := ib_w 5 11 h78.1 rfl
      have Ez77 := lf_add h78.2 (lf_rf x_this_plan_kinds) (lf_lc 5 (5 : Int) rfl)
      refine lv_icmp_eq (tgt := 22) hx hb dX9_isImage_17 rfl (fun c80 => ?_) (fun c80 => ?_)
      · replace hq := lf_pos hq (lf_eq (lf_rf p0) Ez77 c80)
        have h81 := ib_eq (ib_any p0) h79 c80
        have h82 : ib p0 5 11 := ib_w 5 11 h81.1 rfl
        refine lv_iconst (v := 0) hx hb dX9_isImage_22 rfl ?_
        refine lv_istore_n (lv' := [(2, .int 0), (0, .ref a_this), (1, .int p0)]) hx hb dX9_isImage_23 rfl hl (Nat.le_of_ble_eq_true rfl) rfl (fun ls hl => ?_)
        exact jn24 8 0 H locs ls (ib_w 5 11 h82 rfl) (ib_w 1 120 h76 rfl) (ib_w 0 6 (ib_c 0 0 0 rfl) rfl) (by try simp only [show (0 : Int32).toInt = (0 : Int) from rfl]; exact hq) (by have := (ib_c 0 0 0 rfl); unfold ib at this; omega) (hP.sub [1, 2, 0] rfl) (hD.sub [1, 2, 0] rfl rfl) hS (lv_sub hl [1, 2, 0] rfl)
      · replace hq := lf_neg hq (lf_ne (lf_rf p0) Ez77 c80)
        exact jn20  H locs ls (by exact hq) (hP.sub [1, 2, 0] rfl) (hD.sub [1, 2, 0] rfl rfl) hS (lv_sub hl [0, 1] rfl)
set_option maxHeartbeats 4000000 in
set_option maxRecDepth 100000 in
theorem s_X9_isWalker (l : Launch) (dC : Nat → ClassId) (dI : Nat → Nat → Nat) (cy : Nat → ClassId) (sq : Nat → Nat) (a_this : Nat) (a_this_tape : Nat) (x_this_tapeSize : Int32) (a_this_plan : Nat) (x_this_plan_cycle : Int32) (x_this_plan_green : Int32) (x_this_plan_rule : Int32) (x_this_plan_least : Int32) (x_this_plan_away : Int32) (x_this_plan_statements : Int32) (x_this_plan_kinds : Int32) (a_this_plan_calm : Nat) (a_this_plan_pace : Nat) (a_this_plan_trusts : Nat) (x_this_plan_walkers : Int32) (a_this_plan_kindOf : Nat) (a_this_plan_comesAt : Nat) (a_this_plan_comers : Nat) (a_this_plan_names : Nat) (a_this_plan_code : Nat) (x_this_plan_size : Int32) (a_this_plan_spans : Nat) (a_this_spare : Nat) (a_this_now : Nat) (a_this_history : Nat) (a_this_machine : Nat) (a_this_reader : Nat) (a_this_street : Nat) (a_this_choice : Nat) (a_this_ahead : Nat) (a_this_watch : Nat) (a_this_octets : Nat) (x_this_octetCount : Int32) (a_this_refusals : Nat) (x_this_drawn : Int64) (p0 : Int32) (hx_this_plan_walkers : ib x_this_plan_walkers 0 12) : k_Met l yX9_isWalker cX9_isWalker 2 (some .boolean) { frames := 0, cells := 0, slots := 0, locals := 0 } dC dI cy sq [.ref a_this, .int p0] [(wo_9_rirrrrrrrrrrrirl a_this a_this_tape x_this_tapeSize a_this_plan a_this_spare a_this_now a_this_history a_this_machine a_this_reader a_this_street a_this_choice a_this_ahead a_this_watch a_this_octets x_this_octetCount a_this_refusals x_this_drawn), (wo_4_iiiiiiirrrirrrrrir a_this_plan x_this_plan_cycle x_this_plan_green x_this_plan_rule x_this_plan_least x_this_plan_away x_this_plan_statements x_this_plan_kinds a_this_plan_calm a_this_plan_pace a_this_plan_trusts x_this_plan_walkers a_this_plan_kindOf a_this_plan_comesAt a_this_plan_comers a_this_plan_names a_this_plan_code x_this_plan_size a_this_plan_spans)] (k_Qi dC dI (fun (r : Int32) (_ : Unit) => ib r 0 1 ∧ (¬ r = 0 → ib x_this_plan_walkers 1 12) ∧ (¬ r = 0 → ib p0 0 11) ∧ (F_X9_isWalker (Int32.toInt x_this_plan_walkers) (Int32.toInt p0) = ((Int32.toInt r)))) (fun _ : Unit => [(wo_9_rirrrrrrrrrrrirl a_this a_this_tape x_this_tapeSize a_this_plan a_this_spare a_this_now a_this_history a_this_machine a_this_reader a_this_street a_this_choice a_this_ahead a_this_watch a_this_octets x_this_octetCount a_this_refusals x_this_drawn), (wo_4_iiiiiiirrrirrrrrir a_this_plan x_this_plan_cycle x_this_plan_green x_this_plan_rule x_this_plan_least x_this_plan_away x_this_plan_statements x_this_plan_kinds a_this_plan_calm a_this_plan_pace a_this_plan_trusts x_this_plan_walkers a_this_plan_kindOf a_this_plan_comesAt a_this_plan_comers a_this_plan_names a_this_plan_code x_this_plan_size a_this_plan_spans)])) := by
  refine k_ofW2 (by decide +kernel) (Nat.le_of_ble_eq_true rfl) ?_
  intro p e s m below meth c A ls H locs args Q hQ C0 hZ hr hlk hin hP hD hA hS hl
  have C0 : k_cx p s m args c cX9_isWalker 2 RX9 dC dI cy sq := C0
  have hx := C0.1
  have hb := C0.2.1
  have hl : lv_has ls 2 [(0, .ref a_this), (1, .int p0)] := hl
  obtain ⟨O, hO⟩ : ∃ o, o = F_X9_isWalker (Int32.toInt x_this_plan_walkers) (Int32.toInt p0) := ⟨_, rfl⟩
  have hq := hO
  unfold F_X9_isWalker at hq
  have jn19 : ∀  (H : Heap) (locs : List Loc) (ls : Array Slot), (O = F_X9_isWalker_19 ) → va_P (dC, dI) vwCl [(wo_9_rirrrrrrrrrrrirl a_this a_this_tape x_this_tapeSize a_this_plan a_this_spare a_this_now a_this_history a_this_machine a_this_reader a_this_street a_this_choice a_this_ahead a_this_watch a_this_octets x_this_octetCount a_this_refusals x_this_drawn), (wo_4_iiiiiiirrrirrrrrir a_this_plan x_this_plan_cycle x_this_plan_green x_this_plan_rule x_this_plan_least x_this_plan_away x_this_plan_statements x_this_plan_kinds a_this_plan_calm a_this_plan_pace a_this_plan_trusts x_this_plan_walkers a_this_plan_kindOf a_this_plan_comesAt a_this_plan_comers a_this_plan_names a_this_plan_code x_this_plan_size a_this_plan_spans)] H → va_D A [(wo_9_rirrrrrrrrrrrirl a_this a_this_tape x_this_tapeSize a_this_plan a_this_spare a_this_now a_this_history a_this_machine a_this_reader a_this_street a_this_choice a_this_ahead a_this_watch a_this_octets x_this_octetCount a_this_refusals x_this_drawn), (wo_4_iiiiiiirrrirrrrrir a_this_plan x_this_plan_cycle x_this_plan_green x_this_plan_rule x_this_plan_least x_this_plan_away x_this_plan_statements x_this_plan_kinds a_this_plan_calm a_this_plan_pace a_this_plan_trusts x_this_plan_walkers a_this_plan_kindOf a_this_plan_comesAt a_this_plan_comers a_this_plan_names a_this_plan_code x_this_plan_size a_this_plan_spans)] → va_S A s.heap H locs → lv_has ls 2 [(0, .ref a_this), (1, .int p0)] → W p l e { frames := 0, cells := 0, slots := 0, locals := 0 } s m args below meth c H locs 0 0 Q (F0 m 19 ls []) := by
    intro H locs ls hq hP hD hS hl
    unfold F_X9_isWalker_19 at hq
    refine lv_iconst (v := 0) hx hb dX9_isWalker_19 rfl ?_
    subst hQ; exact k_iret hx hb hr hlk (k_nb 0 rfl) () hS ⟨ib_w 0 1 (ib_c 0 0 0 rfl) rfl, fun hq9 => absurd rfl hq9, fun hq9 => absurd rfl hq9, (hO.symm.trans (by try simp only [show (0 : Int32).toInt = (0 : Int) from rfl]; exact hq))⟩ hP hD (Nat.le_of_ble_eq_true rfl) (Nat.le_of_ble_eq_true rfl) dX9_isWalker_20
  refine lv_iload_n hx hb dX9_isWalker_0 rfl (lv_at hl 1 rfl) ?_
  refine lv_if_lt (tgt := 19) hx hb dX9_isWalker_1 rfl (fun c1 => ?_) (fun c1 => ?_)
  · replace hq := lf_pos hq (lf_lt (lf_rf p0) (lf_lc 0 (0 : Int) rfl) c1)
    have h2 := ib_lt (ib_any p0) (ib_c 0 0 0 rfl) c1
    have h3 : ib p0 (-2147483648) (-1) := ib_w (-2147483648) (-1) h2.1 rfl
    exact jn19  H locs ls (by exact hq) hP hD hS (lv_sub hl [0, 1] rfl)
  · replace hq := lf_neg hq (lf_nlt (lf_rf p0) (lf_lc 0 (0 : Int) rfl) c1)
    have h4 := ib_nlt (ib_any p0) (ib_c 0 0 0 rfl) c1
    have h5 : ib p0 0 2147483647 := ib_w 0 2147483647 h4.1 rfl
    refine lv_iload_n hx hb dX9_isWalker_4 rfl (lv_at hl 1 rfl) ?_
    refine lv_aload_n hx hb dX9_isWalker_5 rfl (lv_at hl 0 rfl) ?_
    refine k_get C0 fg_X9_20 hP 0 rfl rfl dX9_isWalker_6 ?_
    refine k_get C0 fg_X9_151 hP 1 rfl rfl dX9_isWalker_9 ?_
    refine lv_icmp_ge (tgt := 19) hx hb dX9_isWalker_12 rfl (fun c6 => ?_) (fun c6 => ?_)
    · replace hq := lf_pos hq (lf_le (lf_rf x_this_plan_walkers) (lf_rf p0) c6)
      have h7 := ib_le hx_this_plan_walkers h5 c6
      exact jn19  H locs ls (by exact hq) hP hD hS (lv_sub hl [0, 1] rfl)
    · replace hq := lf_neg hq (lf_nle (lf_rf x_this_plan_walkers) (lf_rf p0) c6)
      have h8 := ib_nle hx_this_plan_walkers h5 c6
      have h9 : ib x_this_plan_walkers 1 12 := ib_w 1 12 h8.1 rfl
      have h10 : ib p0 0 11 := ib_w 0 11 h8.2 rfl
      refine lv_iconst (v := 1) hx hb dX9_isWalker_15 rfl ?_
      refine lv_goto (tgt := 20) hx hb dX9_isWalker_16 rfl ?_
      subst hQ; exact k_iret hx hb hr hlk (k_nb 1 rfl) () hS ⟨ib_w 0 1 (ib_c 1 1 1 rfl) rfl, fun _ => ib_w 1 12 h9 rfl, fun _ => ib_w 0 11 h10 rfl, (hO.symm.trans (by try simp only [show (1 : Int32).toInt = (1 : Int) from rfl]; exact hq))⟩ hP hD (Nat.le_of_ble_eq_true rfl) (Nat.le_of_ble_eq_true rfl) dX9_isWalker_20
set_option maxHeartbeats 4000000 in
set_option maxRecDepth 100000 in
theorem s_X9_kind (l : Launch) (dC : Nat → ClassId) (dI : Nat → Nat → Nat) (cy : Nat → ClassId) (sq : Nat → Nat) (a_this : Nat) (a_this_tape : Nat) (x_this_tapeSize : Int32) (a_this_plan : Nat) (x_this_plan_cycle : Int32) (x_this_plan_green : Int32) (x_this_plan_rule : Int32) (x_this_plan_least : Int32) (x_this_plan_away : Int32) (x_this_plan_statements : Int32) (x_this_plan_kinds : Int32) (a_this_plan_calm : Nat) (g_this_plan_calm : Nat → Int32) (a_this_plan_pace : Nat) (g_this_plan_pace : Nat → Int32) (a_this_plan_trusts : Nat) (x_this_plan_walkers : Int32) (a_this_plan_kindOf : Nat) (g_this_plan_kindOf : Nat → Int32) (a_this_plan_comesAt : Nat) (a_this_plan_comers : Nat) (a_this_plan_names : Nat) (a_this_plan_code : Nat) (x_this_plan_size : Int32) (a_this_plan_spans : Nat) (a_this_spare : Nat) (a_this_now : Nat) (x_this_now_day : Int32) (x_this_now_rule : Int32) (x_this_now_green : Int32) (a_this_now_trusts : Nat) (g_this_now_trusts : Nat → Int32) (a_this_history : Nat) (a_this_machine : Nat) (a_this_reader : Nat) (a_this_street : Nat) (a_this_choice : Nat) (a_this_ahead : Nat) (a_this_watch : Nat) (a_this_octets : Nat) (x_this_octetCount : Int32) (a_this_refusals : Nat) (x_this_drawn : Int64) (p0 : Int32) (p1 : Int32) (hx_this_plan_kinds : ib x_this_plan_kinds 0 6) (hx_this_plan_walkers : ib x_this_plan_walkers 0 12) (hg_this_plan_kindOf : ia g_this_plan_kindOf 12 0 5) : k_Met l yX9_kind cX9_kind 3 (some .int) { frames := 1, cells := 0, slots := 0, locals := 23 } dC dI cy sq [.ref a_this, .int p0, .int p1] [(wo_9_rirrrrrrrrrrrirl a_this a_this_tape x_this_tapeSize a_this_plan a_this_spare a_this_now a_this_history a_this_machine a_this_reader a_this_street a_this_choice a_this_ahead a_this_watch a_this_octets x_this_octetCount a_this_refusals x_this_drawn), (wo_4_iiiiiiirrrirrrrrir a_this_plan x_this_plan_cycle x_this_plan_green x_this_plan_rule x_this_plan_least x_this_plan_away x_this_plan_statements x_this_plan_kinds a_this_plan_calm a_this_plan_pace a_this_plan_trusts x_this_plan_walkers a_this_plan_kindOf a_this_plan_comesAt a_this_plan_comers a_this_plan_names a_this_plan_code x_this_plan_size a_this_plan_spans), (wi_0_6_0 a_this_plan_calm cy g_this_plan_calm), (wi_0_6_0 a_this_plan_pace cy g_this_plan_pace), (wo_6_iiir a_this_now x_this_now_day x_this_now_rule x_this_now_green a_this_now_trusts), (wi_0_6_0 a_this_now_trusts cy g_this_now_trusts), (wi_0_12_0 a_this_plan_kindOf cy g_this_plan_kindOf)] (k_Qi dC dI (fun (r : Int32) (_ : Unit) => (F_X9_kind (Int32.toInt x_this_plan_kinds) (lf_A g_this_plan_calm) (lf_A g_this_plan_pace) (Int32.toInt x_this_plan_walkers) (lf_A g_this_plan_kindOf) (lf_A g_this_now_trusts) (Int32.toInt p0) (Int32.toInt p1) = ((Int32.toInt r)))) (fun _ : Unit => [(wo_9_rirrrrrrrrrrrirl a_this a_this_tape x_this_tapeSize a_this_plan a_this_spare a_this_now a_this_history a_this_machine a_this_reader a_this_street a_this_choice a_this_ahead a_this_watch a_this_octets x_this_octetCount a_this_refusals x_this_drawn), (wo_4_iiiiiiirrrirrrrrir a_this_plan x_this_plan_cycle x_this_plan_green x_this_plan_rule x_this_plan_least x_this_plan_away x_this_plan_statements x_this_plan_kinds a_this_plan_calm a_this_plan_pace a_this_plan_trusts x_this_plan_walkers a_this_plan_kindOf a_this_plan_comesAt a_this_plan_comers a_this_plan_names a_this_plan_code x_this_plan_size a_this_plan_spans), (wi_0_6_0 a_this_plan_calm cy g_this_plan_calm), (wi_0_6_0 a_this_plan_pace cy g_this_plan_pace), (wo_6_iiir a_this_now x_this_now_day x_this_now_rule x_this_now_green a_this_now_trusts), (wi_0_6_0 a_this_now_trusts cy g_this_now_trusts), (wi_0_12_0 a_this_plan_kindOf cy g_this_plan_kindOf)])) := by
  refine k_ofW2 (by decide +kernel) (Nat.le_of_ble_eq_true rfl) ?_
  intro p e s m below meth c A ls H locs args Q hQ C0 hZ hr hlk hin hP hD hA hS hl
  have C0 : k_cx p s m args c cX9_kind 3 RX9 dC dI cy sq := C0
  have hx := C0.1
  have hb := C0.2.1
  have hl : lv_has ls 3 [(0, .ref a_this), (1, .int p0), (2, .int p1)] := hl
  obtain ⟨O, hO⟩ : ∃ o, o = F_X9_kind (Int32.toInt x_this_plan_kinds) (lf_A g_this_plan_calm) (lf_A g_this_plan_pace) (Int32.toInt x_this_plan_walkers) (lf_A g_this_plan_kindOf) (lf_A g_this_now_trusts) (Int32.toInt p0) (Int32.toInt p1) := ⟨_, rfl⟩
  have hq := hO
  unfold F_X9_kind at hq
  refine lv_aload_n hx hb dX9_kind_0 rfl (lv_at hl 0 rfl) ?_
  refine lv_iload_n hx hb dX9_kind_1 rfl (lv_at hl 1 rfl) ?_
  refine k_jim hP hD hS hA [0, 1] [false, false, true, true, true, true, true] rfl rfl rfl 0 0 (Nat.le_of_ble_eq_true rfl) (Nat.le_of_ble_eq_true rfl) (fun hPc hDc => k_runV (As := [.int p0]) (rest := []) C0 hZ hS hA (s_X9_isKind l dC dI cy sq a_this a_this_tape x_this_tapeSize a_this_plan x_this_plan_cycle x_this_plan_green x_this_plan_rule x_this_plan_least x_this_plan_away x_this_plan_statements x_this_plan_kinds a_this_plan_calm a_this_plan_pace a_this_plan_trusts x_this_plan_walkers a_this_plan_kindOf a_this_plan_comesAt a_this_plan_comers a_this_plan_names a_this_plan_code x_this_plan_size a_this_plan_spans a_this_spare a_this_now a_this_history a_this_machine a_this_reader a_this_street a_this_choice a_this_ahead a_this_watch a_this_octets x_this_octetCount a_this_refusals x_this_drawn p0 (ib_w 0 6 hx_this_plan_kinds rfl)) mV_X9_169 hPc hDc rfl rfl rfl hl rfl rfl (Nat.le_of_ble_eq_true rfl) ⟨(Nat.le_of_ble_eq_true rfl), (Nat.le_of_ble_eq_true rfl)⟩ ⟨(Nat.le_of_ble_eq_true rfl), (Nat.le_of_ble_eq_true rfl)⟩ dX9_kind_2) (fun r1 u2 H locs hw hP hD hS => ?_)
  try dsimp only at hP hD hw
  replace hP : va_P (dC, dI) vwCl [(wi_0_6_0 a_this_plan_calm cy g_this_plan_calm), (wi_0_6_0 a_this_plan_pace cy g_this_plan_pace), (wo_6_iiir a_this_now x_this_now_day x_this_now_rule x_this_now_green a_this_now_trusts), (wi_0_6_0 a_this_now_trusts cy g_this_now_trusts), (wi_0_12_0 a_this_plan_kindOf cy g_this_plan_kindOf), (wo_9_rirrrrrrrrrrrirl a_this a_this_tape x_this_tapeSize a_this_plan a_this_spare a_this_now a_this_history a_this_machine a_this_reader a_this_street a_this_choice a_this_ahead a_this_watch a_this_octets x_this_octetCount a_this_refusals x_this_drawn), (wo_4_iiiiiiirrrirrrrrir a_this_plan x_this_plan_cycle x_this_plan_green x_this_plan_rule x_this_plan_least x_this_plan_away x_this_plan_statements x_this_plan_kinds a_this_plan_calm a_this_plan_pace a_this_plan_trusts x_this_plan_walkers a_this_plan_kindOf a_this_plan_comesAt a_this_plan_comers a_this_plan_names a_this_plan_code x_this_plan_size a_this_plan_spans)] H := hP
  replace hD := k_D hP hD
  obtain ⟨h3, h4, h5, h6⟩ := hw
  replace hq := lf_b1 hq h6
  refine lv_if_ne (tgt := 10) hx hb dX9_kind_5 rfl (fun c7 => ?_) (fun c7 => ?_)
  · as_aux_lemma =>
      replace hq := lf_neg hq (lf_ne (lf_rf r1) (lf_lc 0 (0 : Int) rfl) c7)
      have h8 : ib r1 1 1 := ib_w 1 1 (ib_ne_lo 0 h3 rfl c7) rfl
      have h9 : ib x_this_plan_kinds 1 6 := ib_w 1 6 (ib_two hx_this_plan_kinds (h4 c7)) rfl
      have h10 : ib p0 0 5 := ib_w 0 5 (ib_two (ib_any p0) (h5 c7)) rfl
      refine lv_iload_n hx hb dX9_kind_10 rfl (lv_at hl 2 rfl) ?_
      rcases Decidable.em (p1 = 0) with s11_0 | s11_0
      · skip
        replace hq := lf_pos hq (lf_eq (lf_rf p1) (lf_lc 0 (0 : Int) rfl) s11_0)
        have h12 : ib p1 0 0 := by rw [s11_0]; exact ib_c 0 0 0 rfl
        refine lv_tableIn (off := 29) (tgt := 40) hx hb dX9_kind_11 (by rw [s11_0]; decide) (by rw [s11_0]; decide) (by rw [s11_0]; decide) (by decide) ?_
        refine lv_aload_n hx hb dX9_kind_40 rfl (lv_at hl 0 rfl) ?_
        refine k_get C0 fg_X9_20 hP 5 rfl rfl dX9_kind_41 ?_
        refine k_get C0 fg_X9_178 hP 6 rfl rfl dX9_kind_44 ?_
        refine lv_iload_n hx hb dX9_kind_47 rfl (lv_at hl 1 rfl) ?_
        refine va_iald hx hb C0.2.2.2.2.2.1 hP 0 0 rfl rfl (ib_in 6 h10 rfl) dX9_kind_48 ?_
        refine lv_topi (fun z13 ez13 => ?_)
        have Ez13 := lf_ld ez13 (lf_ra g_this_plan_calm) (lf_rf p0)
        subst hQ; exact k_iret hx hb hr hlk rfl () hS ((hO.symm.trans (by rw [lf_u Ez13]; exact hq))) (hP.sub [5, 6, 0, 1, 2, 3, 4] rfl) (hD.sub [5, 6, 0, 1, 2, 3, 4] rfl rfl) (Nat.le_of_ble_eq_true rfl) (Nat.le_of_ble_eq_true rfl) dX9_kind_49
      replace hq := lf_neg hq (lf_ne (lf_rf p1) (lf_lc 0 (0 : Int) rfl) s11_0)
      rcases Decidable.em (p1 = 1) with s11_1 | s11_1
      · skip
        replace hq := lf_pos hq (lf_eq (lf_rf p1) (lf_lc 1 (1 : Int) rfl) s11_1)
        have h14 : ib p1 1 1 := by rw [s11_1]; exact ib_c 1 1 1 rfl
        refine lv_tableIn (off := 39) (tgt := 50) hx hb dX9_kind_11 (by rw [s11_1]; decide) (by rw [s11_1]; decide) (by rw [s11_1]; decide) (by decide) ?_
        refine lv_aload_n hx hb dX9_kind_50 rfl (lv_at hl 0 rfl) ?_
        refine k_get C0 fg_X9_20 hP 5 rfl rfl dX9_kind_51 ?_
        refine k_get C0 fg_X9_181 hP 6 rfl rfl dX9_kind_54 ?_
        refine lv_iload_n hx hb dX9_kind_57 rfl (lv_at hl 1 rfl) ?_
        refine va_iald hx hb C0.2.2.2.2.2.1 hP 1 0 rfl rfl (ib_in 6 h10 rfl) dX9_kind_58 ?_
        refine lv_topi (fun z15 ez15 => ?_)
        have Ez15 := lf_ld ez15 (lf_ra g_this_plan_pace) (lf_rf p0)
        subst hQ; exact k_iret hx hb hr hlk rfl () hS ((hO.symm.trans (by rw [lf_u Ez15]; exact hq))) (hP.sub [5, 6, 0, 1, 2, 3, 4] rfl) (hD.sub [5, 6, 0, 1, 2, 3, 4] rfl rfl) (Nat.le_of_ble_eq_true rfl) (Nat.le_of_ble_eq_true rfl) dX9_kind_59
      replace hq := lf_neg hq (lf_ne (lf_rf p1) (lf_lc 1 (1 : Int) rfl) s11_1)
      rcases Decidable.em (p1 = 2) with s11_2 | s11_2
      · skip
        replace hq := lf_pos hq (lf_eq (lf_rf p1) (lf_lc 2 (2 : Int) rfl) s11_2)
        have h16 : ib p1 2 2 := by rw [s11_2]; exact ib_c 2 2 2 rfl
        refine lv_tableIn (off := 49) (tgt := 60) hx hb dX9_kind_11 (by rw [s11_2]; decide) (by rw [s11_2]; decide) (by rw [s11_2]; decide) (by decide) ?_
        refine lv_aload_n hx hb dX9_kind_60 rfl (lv_at hl 0 rfl) ?_
        refine k_get C0 fg_X9_30 hP 5 rfl rfl dX9_kind_61 ?_
        refine k_get C0 fg_X9_184 hP 2 rfl rfl dX9_kind_64 ?_
        refine lv_iload_n hx hb dX9_kind_67 rfl (lv_at hl 1 rfl) ?_
        refine va_iald hx hb C0.2.2.2.2.2.1 hP 3 0 rfl rfl (ib_in 6 h10 rfl) dX9_kind_68 ?_
        refine lv_topi (fun z17 ez17 => ?_)
        have Ez17 := lf_ld ez17 (lf_ra g_this_now_trusts) (lf_rf p0)
        subst hQ; exact k_iret hx hb hr hlk rfl () hS ((hO.symm.trans (by rw [lf_u Ez17]; exact hq))) (hP.sub [5, 6, 0, 1, 2, 3, 4] rfl) (hD.sub [5, 6, 0, 1, 2, 3, 4] rfl rfl) (Nat.le_of_ble_eq_true rfl) (Nat.le_of_ble_eq_true rfl) dX9_kind_69
      replace hq := lf_neg hq (lf_ne (lf_rf p1) (lf_lc 2 (2 : Int) rfl) s11_2)
      rcases Decidable.em (p1 = 3) with s11_3 | s11_3
      · skip
        replace hq := lf_pos hq (lf_eq (lf_rf p1) (lf_lc 3 (3 : Int) rfl) s11_3)
        have h18 : ib p1 3 3 := by rw [s11_3]; exact ib_c 3 3 3 rfl
        refine lv_tableIn (off := 59) (tgt := 70) hx hb dX9_kind_11 (by rw [s11_3]; decide) (by rw [s11_3]; decide) (by rw [s11_3]; decide) (by decide) ?_
        refine lv_aload_n hx hb dX9_kind_70 rfl (lv_at hl 0 rfl) ?_
        refine k_get C0 fg_X9_20 hP 5 rfl rfl dX9_kind_71 ?_
        refine lv_iload_n hx hb dX9_kind_74 rfl (lv_at hl 1 rfl) ?_
        refine k_jim hP hD hS hA [6, 4] [true, true, true, true, false, true] rfl rfl rfl 0 0 (Nat.le_of_ble_eq_true rfl) (Nat.le_of_ble_eq_true rfl) (fun hPc hDc => k_runV (As := [.int p0]) (rest := []) C0 hZ hS hA (s_X4_walkersOf l dC dI cy sq a_this_plan x_this_plan_cycle x_this_plan_green x_this_plan_rule x_this_plan_least x_this_plan_away x_this_plan_statements x_this_plan_kinds a_this_plan_calm a_this_plan_pace a_this_plan_trusts x_this_plan_walkers a_this_plan_kindOf g_this_plan_kindOf a_this_plan_comesAt a_this_plan_comers a_this_plan_names a_this_plan_code x_this_plan_size a_this_plan_spans p0 (ib_w 0 12 hx_this_plan_walkers rfl) hg_this_plan_kindOf) mV_X9_187 hPc hDc rfl rfl rfl hl rfl rfl (Nat.le_of_ble_eq_true rfl) ⟨(Nat.le_of_ble_eq_true rfl), (Nat.le_of_ble_eq_true rfl)⟩ ⟨(Nat.le_of_ble_eq_true rfl), (Nat.le_of_ble_eq_true rfl)⟩ dX9_kind_75) (fun r19 u20 H locs hw hP hD hS => ?_)
        try dsimp only at hP hD hw
        replace hP : va_P (dC, dI) vwCl [(wi_0_6_0 a_this_plan_calm cy g_this_plan_calm), (wi_0_6_0 a_this_plan_pace cy g_this_plan_pace), (wo_6_iiir a_this_now x_this_now_day x_this_now_rule x_this_now_green a_this_now_trusts), (wi_0_6_0 a_this_now_trusts cy g_this_now_trusts), (wo_9_rirrrrrrrrrrrirl a_this a_this_tape x_this_tapeSize a_this_plan a_this_spare a_this_now a_this_history a_this_machine a_this_reader a_this_street a_this_choice a_this_ahead a_this_watch a_this_octets x_this_octetCount a_this_refusals x_this_drawn), (wo_4_iiiiiiirrrirrrrrir a_this_plan x_this_plan_cycle x_this_plan_green x_this_plan_rule x_this_plan_least x_this_plan_away x_this_plan_statements x_this_plan_kinds a_this_plan_calm a_this_plan_pace a_this_plan_trusts x_this_plan_walkers a_this_plan_kindOf a_this_plan_comesAt a_this_plan_comers a_this_plan_names a_this_plan_code x_this_plan_size a_this_plan_spans), (wi_0_12_0 a_this_plan_kindOf cy g_this_plan_kindOf)] H := hP
        replace hD := k_D hP hD
        have h21 := hw
        replace hq := lf_b1 hq h21
        subst hQ; exact k_iret hx hb hr hlk rfl () hS ((hO.symm.trans (by exact hq))) (hP.sub [4, 5, 0, 1, 2, 3, 6] rfl) (hD.sub [4, 5, 0, 1, 2, 3, 6] rfl rfl) (Nat.le_of_ble_eq_true rfl) (Nat.le_of_ble_eq_true rfl) dX9_kind_78
      replace hq := lf_neg hq (lf_ne (lf_rf p1) (lf_lc 3 (3 : Int) rfl) s11_3)
      refine lv_tableOut (tgt := 79) hx hb dX9_kind_11 (by have q0 := ib_nei 0 0 rfl s11_0; have q1 := ib_nei 1 1 rfl s11_1; have q2 := ib_nei 2 2 rfl s11_2; have q3 := ib_nei 3 3 rfl s11_3; omega) (by decide) ?_
      refine lv_iconst (v := (-1)) hx hb dX9_kind_79 rfl ?_
      subst hQ; exact k_iret hx hb hr hlk rfl () hS ((hO.symm.trans (by try simp only [show ((-1) : Int32).toInt = (-1 : Int) from rfl]; exact hq))) (hP.sub [5, 6, 0, 1, 2, 3, 4] rfl) (hD.sub [5, 6, 0, 1, 2, 3, 4] rfl rfl) (Nat.le_of_ble_eq_true rfl) (Nat.le_of_ble_eq_true rfl) dX9_kind_80
  · replace hq := lf_pos hq (lf_eq (lf_rf r1) (lf_lc 0 (0 : Int) rfl) c7)
    have h22 := ib_eq h3 (ib_c 0 0 0 rfl) c7
    have h23 : ib r1 0 0 := ib_w 0 0 h22.1 rfl
    refine lv_iconst (v := (-1)) hx hb dX9_kind_8 rfl ?_
    subst hQ; exact k_iret hx hb hr hlk rfl () hS ((hO.symm.trans (by try simp only [show ((-1) : Int32).toInt = (-1 : Int) from rfl]; exact hq))) (hP.sub [5, 6, 0, 1, 2, 3, 4] rfl) (hD.sub [5, 6, 0, 1, 2, 3, 4] rfl rfl) (Nat.le_of_ble_eq_true rfl) (Nat.le_of_ble_eq_true rfl) dX9_kind_9
set_option maxHeartbeats 4000000 in
set_option maxRecDepth 100000 in
theorem s_X9_later (l : Launch) (dC : Nat → ClassId) (dI : Nat → Nat → Nat) (cy : Nat → ClassId) (sq : Nat → Nat) (a_this : Nat) (a_this_tape : Nat) (x_this_tapeSize : Int32) (a_this_plan : Nat) (x_this_plan_cycle : Int32) (x_this_plan_green : Int32) (x_this_plan_rule : Int32) (x_this_plan_least : Int32) (x_this_plan_away : Int32) (x_this_plan_statements : Int32) (x_this_plan_kinds : Int32) (a_this_plan_calm : Nat) (g_this_plan_calm : Nat → Int32) (a_this_plan_pace : Nat) (g_this_plan_pace : Nat → Int32) (a_this_plan_trusts : Nat) (x_this_plan_walkers : Int32) (a_this_plan_kindOf : Nat) (g_this_plan_kindOf : Nat → Int32) (a_this_plan_comesAt : Nat) (g_this_plan_comesAt : Nat → Int32) (a_this_plan_comers : Nat) (g_this_plan_comers : Nat → Int32) (a_this_plan_names : Nat) (a_this_plan_code : Nat) (g_this_plan_code : Nat → Int32) (x_this_plan_size : Int32) (a_this_plan_spans : Nat) (g_this_plan_spans : Nat → Int32) (a_this_spare : Nat) (a_this_now : Nat) (x_this_now_day : Int32) (x_this_now_rule : Int32) (x_this_now_green : Int32) (a_this_now_trusts : Nat) (g_this_now_trusts : Nat → Int32) (a_this_history : Nat) (a_this_machine : Nat) (a_this_machine_facts : Nat) (g_this_machine_facts : Nat → Int32) (a_this_machine_stack : Nat) (g_this_machine_stack : Nat → Int32) (a_this_reader : Nat) (a_this_street : Nat) (x_this_street_day : Int32) (a_this_street_trusts : Nat) (g_this_street_trusts : Nat → Int32) (x_this_street_rule : Int32) (x_this_street_green : Int32) (x_this_street_absent : Int32) (x_this_street_asksReds : Int32) (a_this_street_cars : Nat) (g_this_street_cars : Nat → Int32) (a_this_street_gaps : Nat) (g_this_street_gaps : Nat → Int32) (a_this_street_known : Nat) (g_this_street_known : Nat → Int32) (a_this_street_left : Nat) (g_this_street_left : Nat → Int32) (a_this_street_leaves : Nat) (g_this_street_leaves : Nat → Int32) (x_this_street_pressed : Int32) (x_this_street_crossed : Int32) (x_this_street_went : Int32) (x_this_street_harmed : Int32) (a_this_choice : Nat) (a_this_ahead : Nat) (a_this_ahead_state : Nat) (x_this_ahead_state_day : Int32) (x_this_ahead_state_rule : Int32) (x_this_ahead_state_green : Int32) (a_this_ahead_state_trusts : Nat) (g_this_ahead_state_trusts : Nat → Int32) (a_this_ahead_told : Nat) (g_this_ahead_told : Nat → Int32) (a_this_ahead_trusts : Nat) (g_this_ahead_trusts : Nat → Int32) (x_this_ahead_known : Int32) (a_this_watch : Nat) (a_this_octets : Nat) (x_this_octetCount : Int32) (a_this_refusals : Nat) (x_this_drawn : Int64) (p0 : Int32) (p1 : Int32) (hx_this_plan_cycle : ib x_this_plan_cycle 0 120) (hx_this_plan_least : ib x_this_plan_least 0 99) (hx_this_plan_kinds : ib x_this_plan_kinds 0 6) (hx_this_plan_walkers : ib x_this_plan_walkers 0 12) (hg_this_plan_kindOf : ia g_this_plan_kindOf 12 0 5) (hg_this_plan_comesAt : ia g_this_plan_comesAt 12 0 199) (hg_this_plan_spans : ia g_this_plan_spans 6 0 1600) (hx_this_street_asksReds : ib x_this_street_asksReds 0 1) (hx_this_ahead_known : ib x_this_ahead_known 0 30) : k_Met l yX9_later cX9_later 3 (some .int) { frames := 7, cells := 0, slots := 0, locals := 172 } dC dI cy sq [.ref a_this, .int p0, .int p1] [(wo_9_rirrrrrrrrrrrirl a_this a_this_tape x_this_tapeSize a_this_plan a_this_spare a_this_now a_this_history a_this_machine a_this_reader a_this_street a_this_choice a_this_ahead a_this_watch a_this_octets x_this_octetCount a_this_refusals x_this_drawn), (wo_4_iiiiiiirrrirrrrrir a_this_plan x_this_plan_cycle x_this_plan_green x_this_plan_rule x_this_plan_least x_this_plan_away x_this_plan_statements x_this_plan_kinds a_this_plan_calm a_this_plan_pace a_this_plan_trusts x_this_plan_walkers a_this_plan_kindOf a_this_plan_comesAt a_this_plan_comers a_this_plan_names a_this_plan_code x_this_plan_size a_this_plan_spans), (wo_6_iiir a_this_now x_this_now_day x_this_now_rule x_this_now_green a_this_now_trusts), (wo_0_rrrri a_this_ahead a_this_street a_this_ahead_state a_this_ahead_told a_this_ahead_trusts x_this_ahead_known), (wo_6_iiir a_this_ahead_state x_this_ahead_state_day x_this_ahead_state_rule x_this_ahead_state_green a_this_ahead_state_trusts), (wi_0_6_0 a_this_now_trusts cy g_this_now_trusts), (wi_0_6_0 a_this_ahead_state_trusts cy g_this_ahead_state_trusts), (wo_7_rririiiirrrrriiii a_this_street a_this_machine a_this_plan x_this_street_day a_this_street_trusts x_this_street_rule x_this_street_green x_this_street_absent x_this_street_asksReds a_this_street_cars a_this_street_gaps a_this_street_known a_this_street_left a_this_street_leaves x_this_street_pressed x_this_street_crossed x_this_street_went x_this_street_harmed), (wo_3_rr a_this_machine a_this_machine_facts a_this_machine_stack), (wi_0_13_0 a_this_machine_facts cy g_this_machine_facts), (wi_0_6_0 a_this_plan_spans cy g_this_plan_spans), (wi_0_1600_0 a_this_plan_code cy g_this_plan_code), (wi_0_64_0 a_this_machine_stack cy g_this_machine_stack), (wi_0_320_0 a_this_street_cars cy g_this_street_cars), (wi_0_320_0 a_this_street_gaps cy g_this_street_gaps), (wi_0_6_0 a_this_street_trusts cy g_this_street_trusts), (wi_0_3600_0 a_this_street_known cy g_this_street_known), (wi_0_12_0 a_this_plan_kindOf cy g_this_plan_kindOf), (wi_0_200_0 a_this_plan_comers cy g_this_plan_comers), (wi_0_300_0 a_this_street_left cy g_this_street_left), (wi_0_12_0 a_this_street_leaves cy g_this_street_leaves), (wi_0_6_0 a_this_plan_pace cy g_this_plan_pace), (wi_0_12_0 a_this_plan_comesAt cy g_this_plan_comesAt), (wi_0_6_0 a_this_plan_calm cy g_this_plan_calm), (wi_0_180_0 a_this_ahead_told cy g_this_ahead_told), (wi_0_180_0 a_this_ahead_trusts cy g_this_ahead_trusts)] (k_Qi dC dI (fun (r : Int32) (u : Int32 × Int32 × Int32 × Int32 × (Nat → Int32) × Int32 × Int32 × Int32 × Int32 × Int32 × Int32 × Int32 × Int32 × (Nat → Int32) × (Nat → Int32) × (Nat → Int32) × (Nat → Int32) × (Nat → Int32) × (Nat → Int32) × (Nat → Int32) × (Nat → Int32) × (Nat → Int32) × (Nat → Int32)) => match u with | (n0, n1, n2, n3, n4, n5, n6, n7, n8, n9, n10, n11, n12, n13, n14, n15, n16, n17, n18, n19, n20, n21, n22) => ib n0 0 30 ∧ (F_X9_later (Int32.toInt x_this_plan_cycle) (Int32.toInt x_this_plan_least) (Int32.toInt x_this_plan_kinds) (lf_A g_this_plan_calm) (lf_A g_this_plan_pace) (Int32.toInt x_this_plan_walkers) (lf_A g_this_plan_kindOf) (lf_A g_this_plan_comesAt) (lf_A g_this_plan_comers) (lf_A g_this_plan_code) (lf_A g_this_plan_spans) (Int32.toInt x_this_now_day) (Int32.toInt x_this_now_rule) (Int32.toInt x_this_now_green) (lf_A g_this_now_trusts) (lf_A g_this_machine_facts) (lf_A g_this_machine_stack) (Int32.toInt x_this_street_day) (lf_A g_this_street_trusts) (Int32.toInt x_this_street_rule) (Int32.toInt x_this_street_green) (Int32.toInt x_this_street_absent) (Int32.toInt x_this_street_asksReds) (lf_A g_this_street_cars) (lf_A g_this_street_gaps) (lf_A g_this_street_known) (lf_A g_this_street_left) (lf_A g_this_street_leaves) (Int32.toInt x_this_street_pressed) (Int32.toInt x_this_street_crossed) (Int32.toInt x_this_street_went) (Int32.toInt x_this_street_harmed) (Int32.toInt x_this_ahead_state_day) (Int32.toInt x_this_ahead_state_rule) (Int32.toInt x_this_ahead_state_green) (lf_A g_this_ahead_state_trusts) (lf_A g_this_ahead_told) (lf_A g_this_ahead_trusts) (Int32.toInt x_this_ahead_known) (Int32.toInt p0) (Int32.toInt p1) = ((Int32.toInt r), (Int32.toInt n0), (Int32.toInt n1), (Int32.toInt n2), (Int32.toInt n3), (lf_A n4), (Int32.toInt n5), (Int32.toInt n6), (Int32.toInt n7), (Int32.toInt n8), (Int32.toInt n9), (Int32.toInt n10), (Int32.toInt n11), (Int32.toInt n12), (lf_A n13), (lf_A n14), (lf_A n15), (lf_A n16), (lf_A n17), (lf_A n18), (lf_A n19), (lf_A n20), (lf_A n21), (lf_A n22)))) (fun u : Int32 × Int32 × Int32 × Int32 × (Nat → Int32) × Int32 × Int32 × Int32 × Int32 × Int32 × Int32 × Int32 × Int32 × (Nat → Int32) × (Nat → Int32) × (Nat → Int32) × (Nat → Int32) × (Nat → Int32) × (Nat → Int32) × (Nat → Int32) × (Nat → Int32) × (Nat → Int32) × (Nat → Int32) => match u with | (n0, n1, n2, n3, n4, n5, n6, n7, n8, n9, n10, n11, n12, n13, n14, n15, n16, n17, n18, n19, n20, n21, n22) => [(wo_9_rirrrrrrrrrrrirl a_this a_this_tape x_this_tapeSize a_this_plan a_this_spare a_this_now a_this_history a_this_machine a_this_reader a_this_street a_this_choice a_this_ahead a_this_watch a_this_octets x_this_octetCount a_this_refusals x_this_drawn), (wo_4_iiiiiiirrrirrrrrir a_this_plan x_this_plan_cycle x_this_plan_green x_this_plan_rule x_this_plan_least x_this_plan_away x_this_plan_statements x_this_plan_kinds a_this_plan_calm a_this_plan_pace a_this_plan_trusts x_this_plan_walkers a_this_plan_kindOf a_this_plan_comesAt a_this_plan_comers a_this_plan_names a_this_plan_code x_this_plan_size a_this_plan_spans), (wo_6_iiir a_this_now x_this_now_day x_this_now_rule x_this_now_green a_this_now_trusts), (wo_0_rrrri a_this_ahead a_this_street a_this_ahead_state a_this_ahead_told a_this_ahead_trusts n0), (wo_6_iiir a_this_ahead_state n1 n2 n3 a_this_ahead_state_trusts), (wi_0_6_0 a_this_now_trusts cy g_this_now_trusts), (wi_0_6_0 a_this_ahead_state_trusts cy n4), (wo_7_rririiiirrrrriiii a_this_street a_this_machine a_this_plan n5 a_this_street_trusts n6 n7 n8 x_this_street_asksReds a_this_street_cars a_this_street_gaps a_this_street_known a_this_street_left a_this_street_leaves n9 n10 n11 n12), (wo_3_rr a_this_machine a_this_machine_facts a_this_machine_stack), (wi_0_13_0 a_this_machine_facts cy n13), (wi_0_6_0 a_this_plan_spans cy g_this_plan_spans), (wi_0_1600_0 a_this_plan_code cy g_this_plan_code), (wi_0_64_0 a_this_machine_stack cy n14), (wi_0_320_0 a_this_street_cars cy n15), (wi_0_320_0 a_this_street_gaps cy n16), (wi_0_6_0 a_this_street_trusts cy n17), (wi_0_3600_0 a_this_street_known cy n18), (wi_0_12_0 a_this_plan_kindOf cy g_this_plan_kindOf), (wi_0_200_0 a_this_plan_comers cy g_this_plan_comers), (wi_0_300_0 a_this_street_left cy n19), (wi_0_12_0 a_this_street_leaves cy n20), (wi_0_6_0 a_this_plan_pace cy g_this_plan_pace), (wi_0_12_0 a_this_plan_comesAt cy g_this_plan_comesAt), (wi_0_6_0 a_this_plan_calm cy g_this_plan_calm), (wi_0_180_0 a_this_ahead_told cy n21), (wi_0_180_0 a_this_ahead_trusts cy n22)])) := by
  refine k_ofW2 (by decide +kernel) (Nat.le_of_ble_eq_true rfl) ?_
  intro p e s m below meth c A ls H locs args Q hQ C0 hZ hr hlk hin hP hD hA hS hl
  have C0 : k_cx p s m args c cX9_later 3 RX9 dC dI cy sq := C0
  have hx := C0.1
  have hb := C0.2.1
  have hl : lv_has ls 3 [(0, .ref a_this), (1, .int p0), (2, .int p1)] := hl
  obtain ⟨O, hO⟩ : ∃ o, o = F_X9_later (Int32.toInt x_this_plan_cycle) (Int32.toInt x_this_plan_least) (Int32.toInt x_this_plan_kinds) (lf_A g_this_plan_calm) (lf_A g_this_plan_pace) (Int32.toInt x_this_plan_walkers) (lf_A g_this_plan_kindOf) (lf_A g_this_plan_comesAt) (lf_A g_this_plan_comers) (lf_A g_this_plan_code) (lf_A g_this_plan_spans) (Int32.toInt x_this_now_day) (Int32.toInt x_this_now_rule) (Int32.toInt x_this_now_green) (lf_A g_this_now_trusts) (lf_A g_this_machine_facts) (lf_A g_this_machine_stack) (Int32.toInt x_this_street_day) (lf_A g_this_street_trusts) (Int32.toInt x_this_street_rule) (Int32.toInt x_this_street_green) (Int32.toInt x_this_street_absent) (Int32.toInt x_this_street_asksReds) (lf_A g_this_street_cars) (lf_A g_this_street_gaps) (lf_A g_this_street_known) (lf_A g_this_street_left) (lf_A g_this_street_leaves) (Int32.toInt x_this_street_pressed) (Int32.toInt x_this_street_crossed) (Int32.toInt x_this_street_went) (Int32.toInt x_this_street_harmed) (Int32.toInt x_this_ahead_state_day) (Int32.toInt x_this_ahead_state_rule) (Int32.toInt x_this_ahead_state_green) (lf_A g_this_ahead_state_trusts) (lf_A g_this_ahead_told) (lf_A g_this_ahead_trusts) (Int32.toInt x_this_ahead_known) (Int32.toInt p0) (Int32.toInt p1) := ⟨_, rfl⟩
  have hq := hO
  unfold F_X9_later at hq
  have jn44 : ∀  (H : Heap) (locs : List Loc) (ls : Array Slot), ib p0 0 29 → ib x_this_plan_cycle 1 120 → (O = F_X9_later_44 (lf_A g_this_machine_facts) (lf_A g_this_machine_stack) (Int32.toInt x_this_street_day) (lf_A g_this_street_trusts) (Int32.toInt x_this_street_rule) (Int32.toInt x_this_street_green) (Int32.toInt x_this_street_absent) (lf_A g_this_street_cars) (lf_A g_this_street_gaps) (lf_A g_this_street_known) (lf_A g_this_street_left) (lf_A g_this_street_leaves) (Int32.toInt x_this_street_pressed) (Int32.toInt x_this_street_crossed) (Int32.toInt x_this_street_went) (Int32.toInt x_this_street_harmed) (Int32.toInt x_this_ahead_state_day) (Int32.toInt x_this_ahead_state_rule) (Int32.toInt x_this_ahead_state_green) (lf_A g_this_ahead_state_trusts) (lf_A g_this_ahead_told) (lf_A g_this_ahead_trusts) (Int32.toInt x_this_ahead_known) ) → va_P (dC, dI) vwCl [(wo_9_rirrrrrrrrrrrirl a_this a_this_tape x_this_tapeSize a_this_plan a_this_spare a_this_now a_this_history a_this_machine a_this_reader a_this_street a_this_choice a_this_ahead a_this_watch a_this_octets x_this_octetCount a_this_refusals x_this_drawn), (wo_4_iiiiiiirrrirrrrrir a_this_plan x_this_plan_cycle x_this_plan_green x_this_plan_rule x_this_plan_least x_this_plan_away x_this_plan_statements x_this_plan_kinds a_this_plan_calm a_this_plan_pace a_this_plan_trusts x_this_plan_walkers a_this_plan_kindOf a_this_plan_comesAt a_this_plan_comers a_this_plan_names a_this_plan_code x_this_plan_size a_this_plan_spans), (wo_6_iiir a_this_now x_this_now_day x_this_now_rule x_this_now_green a_this_now_trusts), (wo_0_rrrri a_this_ahead a_this_street a_this_ahead_state a_this_ahead_told a_this_ahead_trusts x_this_ahead_known), (wo_6_iiir a_this_ahead_state x_this_ahead_state_day x_this_ahead_state_rule x_this_ahead_state_green a_this_ahead_state_trusts), (wi_0_6_0 a_this_now_trusts cy g_this_now_trusts), (wi_0_6_0 a_this_ahead_state_trusts cy g_this_ahead_state_trusts), (wo_7_rririiiirrrrriiii a_this_street a_this_machine a_this_plan x_this_street_day a_this_street_trusts x_this_street_rule x_this_street_green x_this_street_absent x_this_street_asksReds a_this_street_cars a_this_street_gaps a_this_street_known a_this_street_left a_this_street_leaves x_this_street_pressed x_this_street_crossed x_this_street_went x_this_street_harmed), (wo_3_rr a_this_machine a_this_machine_facts a_this_machine_stack), (wi_0_13_0 a_this_machine_facts cy g_this_machine_facts), (wi_0_6_0 a_this_plan_spans cy g_this_plan_spans), (wi_0_1600_0 a_this_plan_code cy g_this_plan_code), (wi_0_64_0 a_this_machine_stack cy g_this_machine_stack), (wi_0_320_0 a_this_street_cars cy g_this_street_cars), (wi_0_320_0 a_this_street_gaps cy g_this_street_gaps), (wi_0_6_0 a_this_street_trusts cy g_this_street_trusts), (wi_0_3600_0 a_this_street_known cy g_this_street_known), (wi_0_12_0 a_this_plan_kindOf cy g_this_plan_kindOf), (wi_0_200_0 a_this_plan_comers cy g_this_plan_comers), (wi_0_300_0 a_this_street_left cy g_this_street_left), (wi_0_12_0 a_this_street_leaves cy g_this_street_leaves), (wi_0_6_0 a_this_plan_pace cy g_this_plan_pace), (wi_0_12_0 a_this_plan_comesAt cy g_this_plan_comesAt), (wi_0_6_0 a_this_plan_calm cy g_this_plan_calm), (wi_0_180_0 a_this_ahead_told cy g_this_ahead_told), (wi_0_180_0 a_this_ahead_trusts cy g_this_ahead_trusts)] H → va_D A [(wo_9_rirrrrrrrrrrrirl a_this a_this_tape x_this_tapeSize a_this_plan a_this_spare a_this_now a_this_history a_this_machine a_this_reader a_this_street a_this_choice a_this_ahead a_this_watch a_this_octets x_this_octetCount a_this_refusals x_this_drawn), (wo_4_iiiiiiirrrirrrrrir a_this_plan x_this_plan_cycle x_this_plan_green x_this_plan_rule x_this_plan_least x_this_plan_away x_this_plan_statements x_this_plan_kinds a_this_plan_calm a_this_plan_pace a_this_plan_trusts x_this_plan_walkers a_this_plan_kindOf a_this_plan_comesAt a_this_plan_comers a_this_plan_names a_this_plan_code x_this_plan_size a_this_plan_spans), (wo_6_iiir a_this_now x_this_now_day x_this_now_rule x_this_now_green a_this_now_trusts), (wo_0_rrrri a_this_ahead a_this_street a_this_ahead_state a_this_ahead_told a_this_ahead_trusts x_this_ahead_known), (wo_6_iiir a_this_ahead_state x_this_ahead_state_day x_this_ahead_state_rule x_this_ahead_state_green a_this_ahead_state_trusts), (wi_0_6_0 a_this_now_trusts cy g_this_now_trusts), (wi_0_6_0 a_this_ahead_state_trusts cy g_this_ahead_state_trusts), (wo_7_rririiiirrrrriiii a_this_street a_this_machine a_this_plan x_this_street_day a_this_street_trusts x_this_street_rule x_this_street_green x_this_street_absent x_this_street_asksReds a_this_street_cars a_this_street_gaps a_this_street_known a_this_street_left a_this_street_leaves x_this_street_pressed x_this_street_crossed x_this_street_went x_this_street_harmed), (wo_3_rr a_this_machine a_this_machine_facts a_this_machine_stack), (wi_0_13_0 a_this_machine_facts cy g_this_machine_facts), (wi_0_6_0 a_this_plan_spans cy g_this_plan_spans), (wi_0_1600_0 a_this_plan_code cy g_this_plan_code), (wi_0_64_0 a_this_machine_stack cy g_this_machine_stack), (wi_0_320_0 a_this_street_cars cy g_this_street_cars), (wi_0_320_0 a_this_street_gaps cy g_this_street_gaps), (wi_0_6_0 a_this_street_trusts cy g_this_street_trusts), (wi_0_3600_0 a_this_street_known cy g_this_street_known), (wi_0_12_0 a_this_plan_kindOf cy g_this_plan_kindOf), (wi_0_200_0 a_this_plan_comers cy g_this_plan_comers), (wi_0_300_0 a_this_street_left cy g_this_street_left), (wi_0_12_0 a_this_street_leaves cy g_this_street_leaves), (wi_0_6_0 a_this_plan_pace cy g_this_plan_pace), (wi_0_12_0 a_this_plan_comesAt cy g_this_plan_comesAt), (wi_0_6_0 a_this_plan_calm cy g_this_plan_calm), (wi_0_180_0 a_this_ahead_told cy g_this_ahead_told), (wi_0_180_0 a_this_ahead_trusts cy g_this_ahead_trusts)] → va_S A s.heap H locs → lv_has ls 3 [(0, .ref a_this), (1, .int p0), (2, .int p1)] → W p l e { frames := 7, cells := 0, slots := 0, locals := 172 } s m args below meth c H locs 0 0 Q (F0 m 44 ls []) := by
    intro H locs ls hK44_p0 hK44_x_this_plan_cycle hq hP hD hS hl
    unfold F_X9_later_44 at hq
    refine lv_iconst (v := (-1)) hx hb dX9_later_44 rfl ?_
    subst hQ; exact k_iret hx hb hr hlk rfl ((x_this_ahead_known, x_this_ahead_state_day, x_this_ahead_state_rule, x_this_ahead_state_green, g_this_ahead_state_trusts, x_this_street_day, x_this_street_rule, x_this_street_green, x_this_street_absent, x_this_street_pressed, x_this_street_crossed, x_this_street_went, x_this_street_harmed, g_this_machine_facts, g_this_machine_stack, g_this_street_cars, g_this_street_gaps, g_this_street_trusts, g_this_street_known, g_this_street_left, g_this_street_leaves, g_this_ahead_told, g_this_ahead_trusts)) hS ⟨ib_w 0 30 hx_this_ahead_known rfl, (hO.symm.trans (by try simp only [show ((-1) : Int32).toInt = (-1 : Int) from rfl]; exact hq))⟩ hP hD (Nat.le_of_ble_eq_true rfl) (Nat.le_of_ble_eq_true rfl) dX9_later_45
  have jn32 : ∀  (H : Heap) (locs : List Loc) (ls : Array Slot), (O = F_X9_later_32 (lf_A g_this_machine_facts) (lf_A g_this_machine_stack) (Int32.toInt x_this_street_day) (lf_A g_this_street_trusts) (Int32.toInt x_this_street_rule) (Int32.toInt x_this_street_green) (Int32.toInt x_this_street_absent) (lf_A g_this_street_cars) (lf_A g_this_street_gaps) (lf_A g_this_street_known) (lf_A g_this_street_left) (lf_A g_this_street_leaves) (Int32.toInt x_this_street_pressed) (Int32.toInt x_this_street_crossed) (Int32.toInt x_this_street_went) (Int32.toInt x_this_street_harmed) (Int32.toInt x_this_ahead_state_day) (Int32.toInt x_this_ahead_state_rule) (Int32.toInt x_this_ahead_state_green) (lf_A g_this_ahead_state_trusts) (lf_A g_this_ahead_told) (lf_A g_this_ahead_trusts) (Int32.toInt x_this_ahead_known) ) → va_P (dC, dI) vwCl [(wo_9_rirrrrrrrrrrrirl a_this a_this_tape x_this_tapeSize a_this_plan a_this_spare a_this_now a_this_history a_this_machine a_this_reader a_this_street a_this_choice a_this_ahead a_this_watch a_this_octets x_this_octetCount a_this_refusals x_this_drawn), (wo_4_iiiiiiirrrirrrrrir a_this_plan x_this_plan_cycle x_this_plan_green x_this_plan_rule x_this_plan_least x_this_plan_away x_this_plan_statements x_this_plan_kinds a_this_plan_calm a_this_plan_pace a_this_plan_trusts x_this_plan_walkers a_this_plan_kindOf a_this_plan_comesAt a_this_plan_comers a_this_plan_names a_this_plan_code x_this_plan_size a_this_plan_spans), (wo_6_iiir a_this_now x_this_now_day x_this_now_rule x_this_now_green a_this_now_trusts), (wo_0_rrrri a_this_ahead a_this_street a_this_ahead_state a_this_ahead_told a_this_ahead_trusts x_this_ahead_known), (wo_6_iiir a_this_ahead_state x_this_ahead_state_day x_this_ahead_state_rule x_this_ahead_state_green a_this_ahead_state_trusts), (wi_0_6_0 a_this_now_trusts cy g_this_now_trusts), (wi_0_6_0 a_this_ahead_state_trusts cy g_this_ahead_state_trusts), (wo_7_rririiiirrrrriiii a_this_street a_this_machine a_this_plan x_this_street_day a_this_street_trusts x_this_street_rule x_this_street_green x_this_street_absent x_this_street_asksReds a_this_street_cars a_this_street_gaps a_this_street_known a_this_street_left a_this_street_leaves x_this_street_pressed x_this_street_crossed x_this_street_went x_this_street_harmed), (wo_3_rr a_this_machine a_this_machine_facts a_this_machine_stack), (wi_0_13_0 a_this_machine_facts cy g_this_machine_facts), (wi_0_6_0 a_this_plan_spans cy g_this_plan_spans), (wi_0_1600_0 a_this_plan_code cy g_this_plan_code), (wi_0_64_0 a_this_machine_stack cy g_this_machine_stack), (wi_0_320_0 a_this_street_cars cy g_this_street_cars), (wi_0_320_0 a_this_street_gaps cy g_this_street_gaps), (wi_0_6_0 a_this_street_trusts cy g_this_street_trusts), (wi_0_3600_0 a_this_street_known cy g_this_street_known), (wi_0_12_0 a_this_plan_kindOf cy g_this_plan_kindOf), (wi_0_200_0 a_this_plan_comers cy g_this_plan_comers), (wi_0_300_0 a_this_street_left cy g_this_street_left), (wi_0_12_0 a_this_street_leaves cy g_this_street_leaves), (wi_0_6_0 a_this_plan_pace cy g_this_plan_pace), (wi_0_12_0 a_this_plan_comesAt cy g_this_plan_comesAt), (wi_0_6_0 a_this_plan_calm cy g_this_plan_calm), (wi_0_180_0 a_this_ahead_told cy g_this_ahead_told), (wi_0_180_0 a_this_ahead_trusts cy g_this_ahead_trusts)] H → va_D A [(wo_9_rirrrrrrrrrrrirl a_this a_this_tape x_this_tapeSize a_this_plan a_this_spare a_this_now a_this_history a_this_machine a_this_reader a_this_street a_this_choice a_this_ahead a_this_watch a_this_octets x_this_octetCount a_this_refusals x_this_drawn), (wo_4_iiiiiiirrrirrrrrir a_this_plan x_this_plan_cycle x_this_plan_green x_this_plan_rule x_this_plan_least x_this_plan_away x_this_plan_statements x_this_plan_kinds a_this_plan_calm a_this_plan_pace a_this_plan_trusts x_this_plan_walkers a_this_plan_kindOf a_this_plan_comesAt a_this_plan_comers a_this_plan_names a_this_plan_code x_this_plan_size a_this_plan_spans), (wo_6_iiir a_this_now x_this_now_day x_this_now_rule x_this_now_green a_this_now_trusts), (wo_0_rrrri a_this_ahead a_this_street a_this_ahead_state a_this_ahead_told a_this_ahead_trusts x_this_ahead_known), (wo_6_iiir a_this_ahead_state x_this_ahead_state_day x_this_ahead_state_rule x_this_ahead_state_green a_this_ahead_state_trusts), (wi_0_6_0 a_this_now_trusts cy g_this_now_trusts), (wi_0_6_0 a_this_ahead_state_trusts cy g_this_ahead_state_trusts), (wo_7_rririiiirrrrriiii a_this_street a_this_machine a_this_plan x_this_street_day a_this_street_trusts x_this_street_rule x_this_street_green x_this_street_absent x_this_street_asksReds a_this_street_cars a_this_street_gaps a_this_street_known a_this_street_left a_this_street_leaves x_this_street_pressed x_this_street_crossed x_this_street_went x_this_street_harmed), (wo_3_rr a_this_machine a_this_machine_facts a_this_machine_stack), (wi_0_13_0 a_this_machine_facts cy g_this_machine_facts), (wi_0_6_0 a_this_plan_spans cy g_this_plan_spans), (wi_0_1600_0 a_this_plan_code cy g_this_plan_code), (wi_0_64_0 a_this_machine_stack cy g_this_machine_stack), (wi_0_320_0 a_this_street_cars cy g_this_street_cars), (wi_0_320_0 a_this_street_gaps cy g_this_street_gaps), (wi_0_6_0 a_this_street_trusts cy g_this_street_trusts), (wi_0_3600_0 a_this_street_known cy g_this_street_known), (wi_0_12_0 a_this_plan_kindOf cy g_this_plan_kindOf), (wi_0_200_0 a_this_plan_comers cy g_this_plan_comers), (wi_0_300_0 a_this_street_left cy g_this_street_left), (wi_0_12_0 a_this_street_leaves cy g_this_street_leaves), (wi_0_6_0 a_this_plan_pace cy g_this_plan_pace), (wi_0_12_0 a_this_plan_comesAt cy g_this_plan_comesAt), (wi_0_6_0 a_this_plan_calm cy g_this_plan_calm), (wi_0_180_0 a_this_ahead_told cy g_this_ahead_told), (wi_0_180_0 a_this_ahead_trusts cy g_this_ahead_trusts)] → va_S A s.heap H locs → lv_has ls 3 [(0, .ref a_this), (1, .int p0), (2, .int p1)] → W p l e { frames := 7, cells := 0, slots := 0, locals := 172 } s m args below meth c H locs 0 0 Q (F0 m 32 ls []) := by
    intro H locs ls hq hP hD hS hl
    unfold F_X9_later_32 at hq
    refine lv_iconst (v := (-1)) hx hb dX9_later_32 rfl ?_
    subst hQ; exact k_iret hx hb hr hlk rfl ((x_this_ahead_known, x_this_ahead_state_day, x_this_ahead_state_rule, x_this_ahead_state_green, g_this_ahead_state_trusts, x_this_street_day, x_this_street_rule, x_this_street_green, x_this_street_absent, x_this_street_pressed, x_this_street_crossed, x_this_street_went, x_this_street_harmed, g_this_machine_facts, g_this_machine_stack, g_this_street_cars, g_this_street_gaps, g_this_street_trusts, g_this_street_known, g_this_street_left, g_this_street_leaves, g_this_ahead_told, g_this_ahead_trusts)) hS ⟨ib_w 0 30 hx_this_ahead_known rfl, (hO.symm.trans (by try simp only [show ((-1) : Int32).toInt = (-1 : Int) from rfl]; exact hq))⟩ hP hD (Nat.le_of_ble_eq_true rfl) (Nat.le_of_ble_eq_true rfl) dX9_later_33
  refine lv_aload_n hx hb dX9_later_0 rfl (lv_at hl 0 rfl) ?_
  refine k_jim hP hD hS hA [0, 1] [false, false, true, true, true, true, true, true, true, true, true, true, true, true, true, true, true, true, true, true, true, true, true, true, true, true] rfl rfl (by decide +kernel) 0 0 (Nat.le_of_ble_eq_true rfl) (Nat.le_of_ble_eq_true rfl) (fun hPc hDc => k_runV (As := []) (rest := []) C0 hZ hS hA (s_X9_stands l dC dI cy sq a_this a_this_tape x_this_tapeSize a_this_plan x_this_plan_cycle x_this_plan_green x_this_plan_rule x_this_plan_least x_this_plan_away x_this_plan_statements x_this_plan_kinds a_this_plan_calm a_this_plan_pace a_this_plan_trusts x_this_plan_walkers a_this_plan_kindOf a_this_plan_comesAt a_this_plan_comers a_this_plan_names a_this_plan_code x_this_plan_size a_this_plan_spans a_this_spare a_this_now a_this_history a_this_machine a_this_reader a_this_street a_this_choice a_this_ahead a_this_watch a_this_octets x_this_octetCount a_this_refusals x_this_drawn (ib_w 0 120 hx_this_plan_cycle rfl)) mV_X9_218 hPc hDc rfl rfl rfl hl rfl rfl (Nat.le_of_ble_eq_true rfl) ⟨(Nat.le_of_ble_eq_true rfl), (Nat.le_of_ble_eq_true rfl)⟩ ⟨(Nat.le_of_ble_eq_true rfl), (Nat.le_of_ble_eq_true rfl)⟩ dX9_later_1) (fun r1 u2 H locs hw hP hD hS => ?_)
  try dsimp only at hP hD hw
  replace hP : va_P (dC, dI) vwCl [(wo_6_iiir a_this_now x_this_now_day x_this_now_rule x_this_now_green a_this_now_trusts), (wo_0_rrrri a_this_ahead a_this_street a_this_ahead_state a_this_ahead_told a_this_ahead_trusts x_this_ahead_known), (wo_6_iiir a_this_ahead_state x_this_ahead_state_day x_this_ahead_state_rule x_this_ahead_state_green a_this_ahead_state_trusts), (wi_0_6_0 a_this_now_trusts cy g_this_now_trusts), (wi_0_6_0 a_this_ahead_state_trusts cy g_this_ahead_state_trusts), (wo_7_rririiiirrrrriiii a_this_street a_this_machine a_this_plan x_this_street_day a_this_street_trusts x_this_street_rule x_this_street_green x_this_street_absent x_this_street_asksReds a_this_street_cars a_this_street_gaps a_this_street_known a_this_street_left a_this_street_leaves x_this_street_pressed x_this_street_crossed x_this_street_went x_this_street_harmed), (wo_3_rr a_this_machine a_this_machine_facts a_this_machine_stack), (wi_0_13_0 a_this_machine_facts cy g_this_machine_facts), (wi_0_6_0 a_this_plan_spans cy g_this_plan_spans), (wi_0_1600_0 a_this_plan_code cy g_this_plan_code), (wi_0_64_0 a_this_machine_stack cy g_this_machine_stack), (wi_0_320_0 a_this_street_cars cy g_this_street_cars), (wi_0_320_0 a_this_street_gaps cy g_this_street_gaps), (wi_0_6_0 a_this_street_trusts cy g_this_street_trusts), (wi_0_3600_0 a_this_street_known cy g_this_street_known), (wi_0_12_0 a_this_plan_kindOf cy g_this_plan_kindOf), (wi_0_200_0 a_this_plan_comers cy g_this_plan_comers), (wi_0_300_0 a_this_street_left cy g_this_street_left), (wi_0_12_0 a_this_street_leaves cy g_this_street_leaves), (wi_0_6_0 a_this_plan_pace cy g_this_plan_pace), (wi_0_12_0 a_this_plan_comesAt cy g_this_plan_comesAt), (wi_0_6_0 a_this_plan_calm cy g_this_plan_calm), (wi_0_180_0 a_this_ahead_told cy g_this_ahead_told), (wi_0_180_0 a_this_ahead_trusts cy g_this_ahead_trusts), (wo_9_rirrrrrrrrrrrirl a_this a_this_tape x_this_tapeSize a_this_plan a_this_spare a_this_now a_this_history a_this_machine a_this_reader a_this_street a_this_choice a_this_ahead a_this_watch a_this_octets x_this_octetCount a_this_refusals x_this_drawn), (wo_4_iiiiiiirrrirrrrrir a_this_plan x_this_plan_cycle x_this_plan_green x_this_plan_rule x_this_plan_least x_this_plan_away x_this_plan_statements x_this_plan_kinds a_this_plan_calm a_this_plan_pace a_this_plan_trusts x_this_plan_walkers a_this_plan_kindOf a_this_plan_comesAt a_this_plan_comers a_this_plan_names a_this_plan_code x_this_plan_size a_this_plan_spans)] H := hP
  replace hD := k_D hP hD
  obtain ⟨h3, h4, h5⟩ := hw
  replace hq := lf_b1 hq h5
  refine lv_if_eq (tgt := 32) hx hb dX9_later_4 rfl (fun c6 => ?_) (fun c6 => ?_)
  · replace hq := lf_pos hq (lf_eq (lf_rf r1) (lf_lc 0 (0 : Int) rfl) c6)
    have h7 := ib_eq h3 (ib_c 0 0 0 rfl) c6
    have h8 : ib r1 0 0 := ib_w 0 0 h7.1 rfl
    exact jn32  H locs ls (by exact hq) (hP.sub [24, 25, 0, 1, 2, 3, 4, 5, 6, 7, 8, 9, 10, 11, 12, 13, 14, 15, 16, 17, 18, 19, 20, 21, 22, 23] rfl) (hD.sub [24, 25, 0, 1, 2, 3, 4, 5, 6, 7, 8, 9, 10, 11, 12, 13, 14, 15, 16, 17, 18, 19, 20, 21, 22, 23] (by decide +kernel) rfl) hS (lv_sub hl [0, 1, 2] rfl)
  · as_aux_lemma =>
      replace hq := lf_neg hq (lf_ne (lf_rf r1) (lf_lc 0 (0 : Int) rfl) c6)
      have h9 : ib r1 1 1 := ib_w 1 1 (ib_ne_lo 0 h3 rfl c6) rfl
      have h10 : ib x_this_plan_cycle 1 120 := ib_w 1 120 (ib_two hx_this_plan_cycle (h4 c6)) rfl
      refine lv_iload_n hx hb dX9_later_7 rfl (lv_at hl 1 rfl) ?_
      refine lv_if_lt (tgt := 32) hx hb dX9_later_8 rfl (fun c11 => ?_) (fun c11 => ?_)
      · replace hq := lf_pos hq (lf_lt (lf_rf p0) (lf_lc 0 (0 : Int) rfl) c11)
        have h12 := ib_lt (ib_any p0) (ib_c 0 0 0 rfl) c11
        have h13 : ib p0 (-2147483648) (-1) := ib_w (-2147483648) (-1) h12.1 rfl
        exact jn32  H locs ls (by exact hq) (hP.sub [24, 25, 0, 1, 2, 3, 4, 5, 6, 7, 8, 9, 10, 11, 12, 13, 14, 15, 16, 17, 18, 19, 20, 21, 22, 23] rfl) (hD.sub [24, 25, 0, 1, 2, 3, 4, 5, 6, 7, 8, 9, 10, 11, 12, 13, 14, 15, 16, 17, 18, 19, 20, 21, 22, 23] (by decide +kernel) rfl) hS (lv_sub hl [0, 1, 2] rfl)
      · as_aux_lemma =>
          replace hq := lf_neg hq (lf_nlt (lf_rf p0) (lf_lc 0 (0 : Int) rfl) c11)
          have h14 := ib_nlt (ib_any p0) (ib_c 0 0 0 rfl) c11
          have h15 : ib p0 0 2147483647 := ib_w 0 2147483647 h14.1 rfl
          refine lv_iload_n hx hb dX9_later_11 rfl (lv_at hl 1 rfl) ?_
          refine lv_bipush (v := 30) hx hb dX9_later_12 rfl ?_
          refine lv_icmp_ge (tgt := 32) hx hb dX9_later_14 rfl (fun c16 => ?_) (fun c16 => ?_)
          · replace hq := lf_pos hq (lf_le (lf_lc 30 (30 : Int) rfl) (lf_rf p0) c16)
            have h17 := ib_le (ib_c 30 30 30 rfl) h15 c16
            have h18 : ib p0 30 2147483647 := ib_w 30 2147483647 h17.2 rfl
            exact jn32  H locs ls (by exact hq) (hP.sub [24, 25, 0, 1, 2, 3, 4, 5, 6, 7, 8, 9, 10, 11, 12, 13, 14, 15, 16, 17, 18, 19, 20, 21, 22, 23] rfl) (hD.sub [24, 25, 0, 1, 2, 3, 4, 5, 6, 7, 8, 9, 10, 11, 12, 13, 14, 15, 16, 17, 18, 19, 20, 21, 22, 23] (by decide +kernel) rfl) hS (lv_sub hl [0, 1, 2] rfl)
          · as_aux_lemma =>
              replace hq := lf_neg hq (lf_nle (lf_lc 30 (30 : Int) rfl) (lf_rf p0) c16)
              have h19 := ib_nle (ib_c 30 30 30 rfl) h15 c16
              have h20 : ib p0 0 29 := ib_w 0 29 h19.2 rfl
              refine lv_aload_n hx hb dX9_later_17 rfl (lv_at hl 0 rfl) ?_
              refine k_get C0 fg_X9_30 hP 24 rfl rfl dX9_later_18 ?_
              refine k_get C0 fg_X9_154 hP 0 rfl rfl dX9_later_21 ?_
              refine lv_iload_n hx hb dX9_later_24 rfl (lv_at hl 1 rfl) ?_
              refine lv_iadd hx hb dX9_later_25 ?_
              refine lv_topi (fun z21 ez21 => ?_)
              have Ez21 := lf_op lf_iadd ez21 (lf_rf x_this_now_day) (lf_rf p0)
              refine lv_sipush (v := 999) hx hb dX9_later_26 rfl ?_
              refine lv_icmp_le (tgt := 34) hx hb dX9_later_29 rfl (fun c22 => ?_) (fun c22 => ?_)
              · as_aux_lemma =>
                  replace hq := lf_pos hq (lf_le Ez21 (lf_lc 999 (999 : Int) rfl) c22)
                  have h23 := ib_le (ib_any z21) (ib_c 999 999 999 rfl) c22
                  have h24 : ib z21 (-2147483648) 999 := ib_w (-2147483648) 999 h23.1 rfl
                  refine lv_iload_n hx hb dX9_later_34 rfl (lv_at hl 2 rfl) ?_
                  refine lv_if_lt (tgt := 44) hx hb dX9_later_35 rfl (fun c25 => ?_) (fun c25 => ?_)
                  · replace hq := lf_pos hq (lf_lt (lf_rf p1) (lf_lc 0 (0 : Int) rfl) c25)
                    have h26 := ib_lt (ib_any p1) (ib_c 0 0 0 rfl) c25
                    have h27 : ib p1 (-2147483648) (-1) := ib_w (-2147483648) (-1) h26.1 rfl
                    exact jn44  H locs ls (ib_w 0 29 h20 rfl) (ib_w 1 120 h10 rfl) (by exact hq) (hP.sub [24, 25, 0, 1, 2, 3, 4, 5, 6, 7, 8, 9, 10, 11, 12, 13, 14, 15, 16, 17, 18, 19, 20, 21, 22, 23] rfl) (hD.sub [24, 25, 0, 1, 2, 3, 4, 5, 6, 7, 8, 9, 10, 11, 12, 13, 14, 15, 16, 17, 18, 19, 20, 21, 22, 23] (by decide +kernel) rfl) hS (lv_sub hl [0, 1, 2] rfl)
                  · as_aux_lemma =>
                      replace hq := lf_neg hq (lf_nlt (lf_rf p1) (lf_lc 0 (0 : Int) rfl) c25)
                      have h28 := ib_nlt (ib_any p1) (ib_c 0 0 0 rfl) c25
                      have h29 : ib p1 0 2147483647 := ib_w 0 2147483647 h28.1 rfl
                      refine lv_iload_n hx hb dX9_later_38 rfl (lv_at hl 2 rfl) ?_
                      refine lv_bipush (v := 6) hx hb dX9_later_39 rfl ?_
                      refine lv_icmp_lt (tgt := 46) hx hb dX9_later_41 rfl (fun c30 => ?_) (fun c30 => ?_)
                      · as_aux_lemma =>
                          replace hq := lf_pos hq (lf_lt (lf_rf p1) (lf_lc 6 (6 : Int) rfl) c30)
                          have h31 := ib_lt h29 (ib_c 6 6 6 rfl) c30
                          have h32 : ib p1 0 5 := ib_w 0 5 h31.1 rfl
                          refine lv_aload_n hx hb dX9_later_46 rfl (lv_at hl 0 rfl) ?_
                          refine k_get C0 fg_X9_78 hP 24 rfl rfl dX9_later_47 ?_
                          refine lv_aload_n hx hb dX9_later_50 rfl (lv_at hl 0 rfl) ?_
                          refine k_get C0 fg_X9_30 hP 24 rfl rfl dX9_later_51 ?_
                          refine lv_iload_n hx hb dX9_later_54 rfl (lv_at hl 1 rfl) ?_
                          refine lv_iconst (v := 1) hx hb dX9_later_55 rfl ?_
                          refine lv_iadd hx hb dX9_later_56 ?_
                          refine lv_topi (fun z33 ez33 => ?_)
                          have h34 := ib_add h20 (ib_c 1 1 1 rfl) rfl
                          rw [← ez33] at h34
                          have h35 : ib z33 1 30 := ib_w 1 30 h34.1 rfl
                          have Ez33 := lf_add h34.2 (lf_rf p0) (lf_lc 1 (1 : Int) rfl)
                          refine k_jvm hP hD hS hA [1, 2, 0, 3, 4, 5, 25, 6, 7, 8, 9, 10, 11, 12, 13, 14, 15, 16, 17, 18, 19, 20, 21, 22, 23] [false, false, false, false, false, false, false, false, false, false, false, false, false, false, false, false, false, false, false, false, false, false, false, false, true] rfl rfl (by decide +kernel) 0 0 (Nat.le_of_ble_eq_true rfl) (Nat.le_of_ble_eq_true rfl) (fun hPc hDc => k_runV (As := [.ref a_this_now, .int z33]) (rest := []) C0 hZ hS hA (s_X0_goTo l dC dI cy sq a_this_ahead a_this_street a_this_machine a_this_machine_facts g_this_machine_facts a_this_machine_stack g_this_machine_stack a_this_plan x_this_plan_cycle x_this_plan_green x_this_plan_rule x_this_plan_least x_this_plan_away x_this_plan_statements x_this_plan_kinds a_this_plan_calm g_this_plan_calm a_this_plan_pace g_this_plan_pace a_this_plan_trusts x_this_plan_walkers a_this_plan_kindOf g_this_plan_kindOf a_this_plan_comesAt g_this_plan_comesAt a_this_plan_comers g_this_plan_comers a_this_plan_names a_this_plan_code g_this_plan_code x_this_plan_size a_this_plan_spans g_this_plan_spans x_this_street_day a_this_street_trusts g_this_street_trusts x_this_street_rule x_this_street_green x_this_street_absent x_this_street_asksReds a_this_street_cars g_this_street_cars a_this_street_gaps g_this_street_gaps a_this_street_known g_this_street_known a_this_street_left g_this_street_left a_this_street_leaves g_this_street_leaves x_this_street_pressed x_this_street_crossed x_this_street_went x_this_street_harmed a_this_ahead_state x_this_ahead_state_day x_this_ahead_state_rule x_this_ahead_state_green a_this_ahead_state_trusts g_this_ahead_state_trusts a_this_ahead_told g_this_ahead_told a_this_ahead_trusts g_this_ahead_trusts x_this_ahead_known a_this_now x_this_now_day x_this_now_rule x_this_now_green a_this_now_trusts g_this_now_trusts z33 (ib_w 0 120 h10 rfl) (ib_w 0 99 hx_this_plan_least rfl) (ib_w 0 6 hx_this_plan_kinds rfl) (ib_w 0 12 hx_this_plan_walkers rfl) hg_this_plan_kindOf hg_this_plan_comesAt hg_this_plan_spans (ib_w 0 1 hx_this_street_asksReds rfl) (ib_w 0 30 hx_this_ahead_known rfl)) mV_X9_242 hPc hDc rfl rfl rfl hl rfl rfl (Nat.le_of_ble_eq_true rfl) ⟨(Nat.le_of_ble_eq_true rfl), (Nat.le_of_ble_eq_true rfl)⟩ ⟨(Nat.le_of_ble_eq_true rfl), (Nat.le_of_ble_eq_true rfl)⟩ dX9_later_57) (fun u37 H locs hw hP hD hS => ?_)
                          obtain ⟨v38, v39, v40, v41, f42, v43, v44, v45, v46, v47, v48, v49, v50, f51, f52, f53, f54, f55, f56, f57, f58, f59, f60⟩ := u37
                          try dsimp only at hP hD hw
                          replace hP : va_P (dC, dI) vwCl [(wo_9_rirrrrrrrrrrrirl a_this a_this_tape x_this_tapeSize a_this_plan a_this_spare a_this_now a_this_history a_this_machine a_this_reader a_this_street a_this_choice a_this_ahead a_this_watch a_this_octets x_this_octetCount a_this_refusals x_this_drawn), (wo_0_rrrri a_this_ahead a_this_street a_this_ahead_state a_this_ahead_told a_this_ahead_trusts v38), (wo_6_iiir a_this_ahead_state v39 v40 v41 a_this_ahead_state_trusts), (wo_6_iiir a_this_now x_this_now_day x_this_now_rule x_this_now_green a_this_now_trusts), (wi_0_6_0 a_this_now_trusts cy g_this_now_trusts), (wi_0_6_0 a_this_ahead_state_trusts cy f42), (wo_7_rririiiirrrrriiii a_this_street a_this_machine a_this_plan v43 a_this_street_trusts v44 v45 v46 x_this_street_asksReds a_this_street_cars a_this_street_gaps a_this_street_known a_this_street_left a_this_street_leaves v47 v48 v49 v50), (wo_4_iiiiiiirrrirrrrrir a_this_plan x_this_plan_cycle x_this_plan_green x_this_plan_rule x_this_plan_least x_this_plan_away x_this_plan_statements x_this_plan_kinds a_this_plan_calm a_this_plan_pace a_this_plan_trusts x_this_plan_walkers a_this_plan_kindOf a_this_plan_comesAt a_this_plan_comers a_this_plan_names a_this_plan_code x_this_plan_size a_this_plan_spans), (wo_3_rr a_this_machine a_this_machine_facts a_this_machine_stack), (wi_0_13_0 a_this_machine_facts cy f51), (wi_0_6_0 a_this_plan_spans cy g_this_plan_spans), (wi_0_1600_0 a_this_plan_code cy g_this_plan_code), (wi_0_64_0 a_this_machine_stack cy f52), (wi_0_320_0 a_this_street_cars cy f53), (wi_0_320_0 a_this_street_gaps cy f54), (wi_0_6_0 a_this_street_trusts cy f55), (wi_0_3600_0 a_this_street_known cy f56), (wi_0_12_0 a_this_plan_kindOf cy g_this_plan_kindOf), (wi_0_200_0 a_this_plan_comers cy g_this_plan_comers), (wi_0_300_0 a_this_street_left cy f57), (wi_0_12_0 a_this_street_leaves cy f58), (wi_0_6_0 a_this_plan_pace cy g_this_plan_pace), (wi_0_12_0 a_this_plan_comesAt cy g_this_plan_comesAt), (wi_0_6_0 a_this_plan_calm cy g_this_plan_calm), (wi_0_180_0 a_this_ahead_told cy f59), (wi_0_180_0 a_this_ahead_trusts cy f60)] H := hP
                          replace hD := k_D hP hD
                          obtain ⟨h61, h62⟩ := hw
                          have h62 := by have h9 := h62; rw [lf_u Ez33] at h9; exact h9
                          replace hq := lf_p1 hq h62
                          replace hq := lf_p1 hq rfl
                          replace hq := lf_p1 hq rfl
                          replace hq := lf_p1 hq rfl
                          replace hq := lf_p1 hq rfl
                          replace hq := lf_p1 hq rfl
                          replace hq := lf_p1 hq rfl
                          replace hq := lf_p1 hq rfl
                          as_aux_lemma =>
                            replace hq := lf_p1 hq rfl
                            replace hq := lf_p1 hq rfl
                            replace hq := lf_p1 hq rfl
                            replace hq := lf_p1 hq rfl
                            replace hq := lf_p1 hq rfl
                            replace hq := lf_p1 hq rfl
                            replace hq := lf_p1 hq rfl
                            replace hq := lf_p1 hq rfl
                            replace hq := lf_p1 hq rfl
                            replace hq := lf_p1 hq rfl
                            replace hq := lf_p1 hq rfl
                            replace hq := lf_p1 hq rfl
                            replace hq := lf_p1 hq rfl
                            replace hq := lf_p1 hq rfl
                            refine lv_aload_n hx hb dX9_later_60 rfl (lv_at hl 0 rfl) ?_
                            refine k_get C0 fg_X9_78 hP 0 rfl rfl dX9_later_61 ?_
                            refine k_get C0 fg_X9_246 hP 1 rfl rfl dX9_later_64 ?_
                            refine lv_iload_n hx hb dX9_later_67 rfl (lv_at hl 1 rfl) ?_
                            refine lv_bipush (v := 6) hx hb dX9_later_68 rfl ?_
                            refine lv_imul hx hb dX9_later_70 ?_
                            refine lv_topi (fun z63 ez63 => ?_)
                            have h64 := ib_mul h20 (ib_c 6 6 6 rfl) rfl
                            rw [← ez63] at h64
                            have h65 : ib z63 0 174 := ib_w 0 174 h64.1 rfl
                            have Ez63 := lf_mul h64.2 (lf_rf p0) (lf_lc 6 (6 : Int) rfl)
                            refine lv_iload_n hx hb dX9_later_71 rfl (lv_at hl 2 rfl) ?_
                            refine lv_iadd hx hb dX9_later_72 ?_
                            refine lv_topi (fun z66 ez66 => ?_)
                            have h67 := ib_add h65 h32 rfl
                            rw [← ez66] at h67
                            have h68 : ib z66 0 179 := ib_w 0 179 h67.1 rfl
                            have Ez66 := lf_add h67.2 Ez63 (lf_rf p1)
                            refine va_iald hx hb C0.2.2.2.2.2.1 hP 24 0 rfl rfl (ib_in 180 h68 rfl) dX9_later_73 ?_
                            refine lv_topi (fun z69 ez69 => ?_)
                            have Ez69 := lf_ld ez69 (lf_ra f59) Ez66
                            subst hQ; exact k_iret hx hb hr hlk rfl ((v38, v39, v40, v41, f42, v43, v44, v45, v46, v47, v48, v49, v50, f51, f52, f53, f54, f55, f56, f57, f58, f59, f60)) hS ⟨ib_w 0 30 h61 rfl, (hO.symm.trans (by rw [lf_u Ez69]; exact hq))⟩ (hP.sub [0, 7, 3, 1, 2, 4, 5, 6, 8, 9, 10, 11, 12, 13, 14, 15, 16, 17, 18, 19, 20, 21, 22, 23, 24, 25] rfl) (hD.sub [0, 7, 3, 1, 2, 4, 5, 6, 8, 9, 10, 11, 12, 13, 14, 15, 16, 17, 18, 19, 20, 21, 22, 23, 24, 25] (by decide +kernel) rfl) (Nat.le_of_ble_eq_true rfl) (Nat.le_of_ble_eq_true rfl) dX9_later_74
                      · replace hq := lf_neg hq (lf_nlt (lf_rf p1) (lf_lc 6 (6 : Int) rfl) c30)
                        have h70 := ib_nlt h29 (ib_c 6 6 6 rfl) c30
                        have h71 : ib p1 6 2147483647 := ib_w 6 2147483647 h70.1 rfl
                        exact jn44  H locs ls (ib_w 0 29 h20 rfl) (ib_w 1 120 h10 rfl) (by exact hq) (hP.sub [24, 25, 0, 1, 2, 3, 4, 5, 6, 7, 8, 9, 10, 11, 12, 13, 14, 15, 16, 17, 18, 19, 20, 21, 22, 23] rfl) (hD.sub [24, 25, 0, 1, 2, 3, 4, 5, 6, 7, 8, 9, 10, 11, 12, 13, 14, 15, 16, 17, 18, 19, 20, 21, 22, 23] (by decide +kernel) rfl) hS (lv_sub hl [0, 1, 2] rfl)
              · replace hq := lf_neg hq (lf_nle Ez21 (lf_lc 999 (999 : Int) rfl) c22)
                have h72 := ib_nle (ib_any z21) (ib_c 999 999 999 rfl) c22
                have h73 : ib z21 1000 2147483647 := ib_w 1000 2147483647 h72.1 rfl
                exact jn32  H locs ls (by exact hq) (hP.sub [24, 25, 0, 1, 2, 3, 4, 5, 6, 7, 8, 9, 10, 11, 12, 13, 14, 15, 16, 17, 18, 19, 20, 21, 22, 23] rfl) (hD.sub [24, 25, 0, 1, 2, 3, 4, 5, 6, 7, 8, 9, 10, 11, 12, 13, 14, 15, 16, 17, 18, 19, 20, 21, 22, 23] (by decide +kernel) rfl) hS (lv_sub hl [0, 1, 2] rfl)
