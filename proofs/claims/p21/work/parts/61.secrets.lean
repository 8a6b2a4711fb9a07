set_option maxHeartbeats 4000000 in
set_option maxRecDepth 100000 in
theorem sg_secrets_0 {p : Program} {l : Launch} (hl0 : l.stackTraces = false) {e : Env} {s : State} {m : MethodId} {below : List Frame} {meth : Method} {c : Code} {G : bG} {args : Array Value} {Q : State → Prop} (X : CallFix p m c cL_secrets 1 s args wsL_secrets RL) (E : bE G vwCl bNW bSW s) {a : Nat → Nat} (Z9 : bZ (hs_M a) s) (hm9 : ∀ q ∈ hs_M a, Aw (hs_M a) s.heap.size q) {i : hs_I} {H : Heap} {locs : List Loc} {ls : Array Slot} (hI : hs_Inv eh_31 i) (w : bSt G vwCl (hs_M a) s (hs_W G a eh_31 i) H locs) (hl : lv_has ls 1 [(0, .ref (a 0))])
    (kk : ∀ (i : hs_I) (H : Heap) (locs : List Loc) (ls : Array Slot), hs_Inv es_4 i → bSt G vwCl (hs_M a) s (hs_W G a es_4 i) H locs → lv_has ls 1 [(0, .ref (a 0))] → W p l e ({ frames := 10, cells := 427, slots := 2562, locals := 237 }) s m args below meth c H locs 19 114 Q (F0 m 207 ls [])) : W p l e ({ frames := 10, cells := 427, slots := 2562, locals := 237 }) s m args below meth c H locs 0 0 Q (F0 m 0 ls []) := by
  have hx := X.1
  have hb := X.2.1
  have hml := X.2.2.1
  have hown := X.2.2.2.1
  have hts := X.2.2.2.2
  refine lv_aload_n hx hb dL_secrets_0 rfl (lv_at hl 0 rfl) ?_
  refine lv_iconst (v := nI 1) hx hb dL_secrets_1 (by decide) ?_
  refine lv_iconst (v := nI 1) hx hb dL_secrets_2 (by decide) ?_
  refine lv_iconst (v := nI 5) hx hb dL_secrets_3 (by decide) ?_
  refine lv_iconst (v := nI 1) hx hb dL_secrets_4 (by decide) ?_
  refine b_tp (show nI 1 = bI true from rfl) ?_
  refine hs_calli w (va_runV (As := [.int (nI 1), .int (nI 1), .int (nI 5), .int (bI true)]) (rest := []) X (n_secret l hl0 G _ a _ _ _ _ hI _ _ _ _ esq_1) (cwV 4 hts gL_secrets_X5_secret rfl rfl rfl (by decide +kernel) ⟨Nat.le_of_ble_eq_true rfl, Nat.le_of_ble_eq_true rfl⟩) ⟨b_blind, hs_recv E w, fun U9 hU9 hW9 => ⟨rfl, hs_pre E Z9 w hm9 U9 hU9 hW9⟩⟩ rfl rfl hl.1 rfl (lv_room (Nat.le_of_ble_eq_true rfl)) dL_secrets_5 ⟨Nat.le_of_ble_eq_true rfl, Nat.le_of_ble_eq_true rfl⟩) hm9 (fun r i H locs hr w => ?_)
  obtain ⟨hI, hr9, -⟩ := hr
  refine b_tp hr9 ?_
  refine lv_iconst (v := nI 5) hx hb dL_secrets_8 (by decide) ?_
  refine lv_icmp_ne (tgt := 313) hx hb dL_secrets_9 (by decide) (fun c9 => absurd rfl c9) (fun c9 => ?_)
  refine lv_aload_n hx hb dL_secrets_12 rfl (lv_at hl 0 rfl) ?_
  refine lv_iconst (v := nI 1) hx hb dL_secrets_13 (by decide) ?_
  refine lv_iconst (v := nI 1) hx hb dL_secrets_14 (by decide) ?_
  refine lv_iconst (v := nI 5) hx hb dL_secrets_15 (by decide) ?_
  refine hs_calli w (va_runV (As := [.int (nI 1), .int (nI 1), .int (nI 5)]) (rest := []) X (n_shown l hl0 G _ a _ _ _ _ hI _ _ _ esq_2) (cwV 3 hts gL_secrets_X5_shown rfl rfl rfl (by decide +kernel) ⟨Nat.le_of_ble_eq_true rfl, Nat.le_of_ble_eq_true rfl⟩) ⟨b_blind, hs_recv E w, fun U9 hU9 hW9 => ⟨rfl, hs_pre E Z9 w hm9 U9 hU9 hW9⟩⟩ rfl rfl hl.1 rfl (lv_room (Nat.le_of_ble_eq_true rfl)) dL_secrets_16 ⟨Nat.le_of_ble_eq_true rfl, Nat.le_of_ble_eq_true rfl⟩) hm9 (fun r i H locs hr w => ?_)
  obtain ⟨hI, hr9, -⟩ := hr
  refine b_tp hr9 ?_
  refine lv_ldc (v := HID) hx hb hown (hts (.constant RL 108 (-2000000002)) (by decide +kernel)) dL_secrets_19 ?_
  refine lv_icmp_ne (tgt := 313) hx hb dL_secrets_21 (by decide) (fun c9 => absurd rfl c9) (fun c9 => ?_)
  refine lv_aload_n hx hb dL_secrets_24 rfl (lv_at hl 0 rfl) ?_
  refine lv_iconst (v := nI 2) hx hb dL_secrets_25 (by decide) ?_
  refine lv_iconst (v := nI 1) hx hb dL_secrets_26 (by decide) ?_
  refine lv_iconst (v := nI 5) hx hb dL_secrets_27 (by decide) ?_
  refine hs_calli w (va_runV (As := [.int (nI 2), .int (nI 1), .int (nI 5)]) (rest := []) X (n_shown l hl0 G _ a _ _ _ _ hI _ _ _ esq_3) (cwV 3 hts gL_secrets_X5_shown rfl rfl rfl (by decide +kernel) ⟨Nat.le_of_ble_eq_true rfl, Nat.le_of_ble_eq_true rfl⟩) ⟨b_blind, hs_recv E w, fun U9 hU9 hW9 => ⟨rfl, hs_pre E Z9 w hm9 U9 hU9 hW9⟩⟩ rfl rfl hl.1 rfl (lv_room (Nat.le_of_ble_eq_true rfl)) dL_secrets_28 ⟨Nat.le_of_ble_eq_true rfl, Nat.le_of_ble_eq_true rfl⟩) hm9 (fun r i H locs hr w => ?_)
  obtain ⟨hI, hr9, -⟩ := hr
  refine b_tp hr9 ?_
  refine lv_ldc (v := HID) hx hb hown (hts (.constant RL 108 (-2000000002)) (by decide +kernel)) dL_secrets_31 ?_
  refine lv_icmp_ne (tgt := 313) hx hb dL_secrets_33 (by decide) (fun c9 => absurd rfl c9) (fun c9 => ?_)
  refine lv_aload_n hx hb dL_secrets_36 rfl (lv_at hl 0 rfl) ?_
  refine lv_iconst (v := nI 1) hx hb dL_secrets_37 (by decide) ?_
  refine lv_iconst (v := nI 2) hx hb dL_secrets_38 (by decide) ?_
  refine lv_iconst (v := nI 5) hx hb dL_secrets_39 (by decide) ?_
  refine hs_calli w (va_runV (As := [.int (nI 1), .int (nI 2), .int (nI 5)]) (rest := []) X (n_shown l hl0 G _ a _ _ _ _ hI _ _ _ esq_4) (cwV 3 hts gL_secrets_X5_shown rfl rfl rfl (by decide +kernel) ⟨Nat.le_of_ble_eq_true rfl, Nat.le_of_ble_eq_true rfl⟩) ⟨b_blind, hs_recv E w, fun U9 hU9 hW9 => ⟨rfl, hs_pre E Z9 w hm9 U9 hU9 hW9⟩⟩ rfl rfl hl.1 rfl (lv_room (Nat.le_of_ble_eq_true rfl)) dL_secrets_40 ⟨Nat.le_of_ble_eq_true rfl, Nat.le_of_ble_eq_true rfl⟩) hm9 (fun r i H locs hr w => ?_)
  obtain ⟨hI, hr9, -⟩ := hr
  refine b_tp hr9 ?_
  refine lv_ldc (v := HID) hx hb hown (hts (.constant RL 108 (-2000000002)) (by decide +kernel)) dL_secrets_43 ?_
  refine lv_icmp_ne (tgt := 313) hx hb dL_secrets_45 (by decide) (fun c9 => absurd rfl c9) (fun c9 => ?_)
  refine lv_aload_n hx hb dL_secrets_48 rfl (lv_at hl 0 rfl) ?_
  refine lv_iconst (v := nI 2) hx hb dL_secrets_49 (by decide) ?_
  refine lv_iconst (v := nI 2) hx hb dL_secrets_50 (by decide) ?_
  refine lv_iconst (v := nI 5) hx hb dL_secrets_51 (by decide) ?_
  refine hs_calli w (va_runV (As := [.int (nI 2), .int (nI 2), .int (nI 5)]) (rest := []) X (n_shown l hl0 G _ a _ _ _ _ hI _ _ _ esq_5) (cwV 3 hts gL_secrets_X5_shown rfl rfl rfl (by decide +kernel) ⟨Nat.le_of_ble_eq_true rfl, Nat.le_of_ble_eq_true rfl⟩) ⟨b_blind, hs_recv E w, fun U9 hU9 hW9 => ⟨rfl, hs_pre E Z9 w hm9 U9 hU9 hW9⟩⟩ rfl rfl hl.1 rfl (lv_room (Nat.le_of_ble_eq_true rfl)) dL_secrets_52 ⟨Nat.le_of_ble_eq_true rfl, Nat.le_of_ble_eq_true rfl⟩) hm9 (fun r i H locs hr w => ?_)
  obtain ⟨hI, hr9, -⟩ := hr
  refine b_tp hr9 ?_
  refine lv_ldc (v := HID) hx hb hown (hts (.constant RL 108 (-2000000002)) (by decide +kernel)) dL_secrets_55 ?_
  refine lv_icmp_ne (tgt := 313) hx hb dL_secrets_57 (by decide) (fun c9 => absurd rfl c9) (fun c9 => ?_)
  refine lv_aload_n hx hb dL_secrets_60 rfl (lv_at hl 0 rfl) ?_
  refine lv_iconst (v := nI 3) hx hb dL_secrets_61 (by decide) ?_
  refine lv_iconst (v := nI 2) hx hb dL_secrets_62 (by decide) ?_
  refine lv_iconst (v := nI 5) hx hb dL_secrets_63 (by decide) ?_
  refine hs_calli w (va_runV (As := [.int (nI 3), .int (nI 2), .int (nI 5)]) (rest := []) X (n_shown l hl0 G _ a _ _ _ _ hI _ _ _ esq_6) (cwV 3 hts gL_secrets_X5_shown rfl rfl rfl (by decide +kernel) ⟨Nat.le_of_ble_eq_true rfl, Nat.le_of_ble_eq_true rfl⟩) ⟨b_blind, hs_recv E w, fun U9 hU9 hW9 => ⟨rfl, hs_pre E Z9 w hm9 U9 hU9 hW9⟩⟩ rfl rfl hl.1 rfl (lv_room (Nat.le_of_ble_eq_true rfl)) dL_secrets_64 ⟨Nat.le_of_ble_eq_true rfl, Nat.le_of_ble_eq_true rfl⟩) hm9 (fun r i H locs hr w => ?_)
  obtain ⟨hI, hr9, -⟩ := hr
  refine b_tp hr9 ?_
  refine lv_ldc (v := HID) hx hb hown (hts (.constant RL 108 (-2000000002)) (by decide +kernel)) dL_secrets_67 ?_
  refine lv_icmp_ne (tgt := 313) hx hb dL_secrets_69 (by decide) (fun c9 => absurd rfl c9) (fun c9 => ?_)
  refine lv_aload_n hx hb dL_secrets_72 rfl (lv_at hl 0 rfl) ?_
  refine lv_iconst (v := nI 0) hx hb dL_secrets_73 (by decide) ?_
  refine lv_iconst (v := nI 1) hx hb dL_secrets_74 (by decide) ?_
  refine lv_iconst (v := nI 5) hx hb dL_secrets_75 (by decide) ?_
  refine hs_calli w (va_runV (As := [.int (nI 0), .int (nI 1), .int (nI 5)]) (rest := []) X (n_shown l hl0 G _ a _ _ _ _ hI _ _ _ esq_7) (cwV 3 hts gL_secrets_X5_shown rfl rfl rfl (by decide +kernel) ⟨Nat.le_of_ble_eq_true rfl, Nat.le_of_ble_eq_true rfl⟩) ⟨b_blind, hs_recv E w, fun U9 hU9 hW9 => ⟨rfl, hs_pre E Z9 w hm9 U9 hU9 hW9⟩⟩ rfl rfl hl.1 rfl (lv_room (Nat.le_of_ble_eq_true rfl)) dL_secrets_76 ⟨Nat.le_of_ble_eq_true rfl, Nat.le_of_ble_eq_true rfl⟩) hm9 (fun r i H locs hr w => ?_)
  obtain ⟨hI, hr9, -⟩ := hr
  refine b_tp hr9 ?_
  refine lv_bipush (v := nI 19) hx hb dL_secrets_79 (by decide) ?_
  refine lv_icmp_ne (tgt := 313) hx hb dL_secrets_81 (by decide) (fun c9 => absurd rfl c9) (fun c9 => ?_)
  refine lv_aload_n hx hb dL_secrets_84 rfl (lv_at hl 0 rfl) ?_
  refine lv_iconst (v := nI 0) hx hb dL_secrets_85 (by decide) ?_
  refine lv_iconst (v := nI 0) hx hb dL_secrets_86 (by decide) ?_
  refine lv_iconst (v := nI 5) hx hb dL_secrets_87 (by decide) ?_
  refine hs_calli w (va_runV (As := [.int (nI 0), .int (nI 0), .int (nI 5)]) (rest := []) X (n_shown l hl0 G _ a _ _ _ _ hI _ _ _ esq_8) (cwV 3 hts gL_secrets_X5_shown rfl rfl rfl (by decide +kernel) ⟨Nat.le_of_ble_eq_true rfl, Nat.le_of_ble_eq_true rfl⟩) ⟨b_blind, hs_recv E w, fun U9 hU9 hW9 => ⟨rfl, hs_pre E Z9 w hm9 U9 hU9 hW9⟩⟩ rfl rfl hl.1 rfl (lv_room (Nat.le_of_ble_eq_true rfl)) dL_secrets_88 ⟨Nat.le_of_ble_eq_true rfl, Nat.le_of_ble_eq_true rfl⟩) hm9 (fun r i H locs hr w => ?_)
  obtain ⟨hI, hr9, -⟩ := hr
  refine b_tp hr9 ?_
  refine lv_bipush (v := nI 20) hx hb dL_secrets_91 (by decide) ?_
  refine lv_icmp_ne (tgt := 313) hx hb dL_secrets_93 (by decide) (fun c9 => absurd rfl c9) (fun c9 => ?_)
  refine lv_aload_n hx hb dL_secrets_96 rfl (lv_at hl 0 rfl) ?_
  refine lv_iconst (v := nI 0) hx hb dL_secrets_97 (by decide) ?_
  refine lv_iconst (v := nI 2) hx hb dL_secrets_98 (by decide) ?_
  refine lv_iconst (v := nI 5) hx hb dL_secrets_99 (by decide) ?_
  refine hs_calli w (va_runV (As := [.int (nI 0), .int (nI 2), .int (nI 5)]) (rest := []) X (n_shown l hl0 G _ a _ _ _ _ hI _ _ _ esq_9) (cwV 3 hts gL_secrets_X5_shown rfl rfl rfl (by decide +kernel) ⟨Nat.le_of_ble_eq_true rfl, Nat.le_of_ble_eq_true rfl⟩) ⟨b_blind, hs_recv E w, fun U9 hU9 hW9 => ⟨rfl, hs_pre E Z9 w hm9 U9 hU9 hW9⟩⟩ rfl rfl hl.1 rfl (lv_room (Nat.le_of_ble_eq_true rfl)) dL_secrets_100 ⟨Nat.le_of_ble_eq_true rfl, Nat.le_of_ble_eq_true rfl⟩) hm9 (fun r i H locs hr w => ?_)
  obtain ⟨hI, hr9, -⟩ := hr
  refine b_tp hr9 ?_
  refine lv_iconst (v := nI 2) hx hb dL_secrets_103 (by decide) ?_
  refine lv_icmp_ne (tgt := 313) hx hb dL_secrets_104 (by decide) (fun c9 => absurd rfl c9) (fun c9 => ?_)
  refine lv_aload_n hx hb dL_secrets_107 rfl (lv_at hl 0 rfl) ?_
  refine lv_iconst (v := nI 1) hx hb dL_secrets_108 (by decide) ?_
  refine lv_iconst (v := nI 0) hx hb dL_secrets_109 (by decide) ?_
  refine lv_iconst (v := nI 5) hx hb dL_secrets_110 (by decide) ?_
  refine hs_calli w (va_runV (As := [.int (nI 1), .int (nI 0), .int (nI 5)]) (rest := []) X (n_shown l hl0 G _ a _ _ _ _ hI _ _ _ esq_10) (cwV 3 hts gL_secrets_X5_shown rfl rfl rfl (by decide +kernel) ⟨Nat.le_of_ble_eq_true rfl, Nat.le_of_ble_eq_true rfl⟩) ⟨b_blind, hs_recv E w, fun U9 hU9 hW9 => ⟨rfl, hs_pre E Z9 w hm9 U9 hU9 hW9⟩⟩ rfl rfl hl.1 rfl (lv_room (Nat.le_of_ble_eq_true rfl)) dL_secrets_111 ⟨Nat.le_of_ble_eq_true rfl, Nat.le_of_ble_eq_true rfl⟩) hm9 (fun r i H locs hr w => ?_)
  obtain ⟨hI, hr9, -⟩ := hr
  refine b_tp hr9 ?_
  refine lv_bipush (v := nI 17) hx hb dL_secrets_114 (by decide) ?_
  refine lv_icmp_ne (tgt := 313) hx hb dL_secrets_116 (by decide) (fun c9 => absurd rfl c9) (fun c9 => ?_)
  refine lv_aload_n hx hb dL_secrets_119 rfl (lv_at hl 0 rfl) ?_
  refine lv_iconst (v := nI 2) hx hb dL_secrets_120 (by decide) ?_
  refine lv_iconst (v := nI 0) hx hb dL_secrets_121 (by decide) ?_
  refine lv_iconst (v := nI 5) hx hb dL_secrets_122 (by decide) ?_
  refine hs_calli w (va_runV (As := [.int (nI 2), .int (nI 0), .int (nI 5)]) (rest := []) X (n_shown l hl0 G _ a _ _ _ _ hI _ _ _ esq_11) (cwV 3 hts gL_secrets_X5_shown rfl rfl rfl (by decide +kernel) ⟨Nat.le_of_ble_eq_true rfl, Nat.le_of_ble_eq_true rfl⟩) ⟨b_blind, hs_recv E w, fun U9 hU9 hW9 => ⟨rfl, hs_pre E Z9 w hm9 U9 hU9 hW9⟩⟩ rfl rfl hl.1 rfl (lv_room (Nat.le_of_ble_eq_true rfl)) dL_secrets_123 ⟨Nat.le_of_ble_eq_true rfl, Nat.le_of_ble_eq_true rfl⟩) hm9 (fun r i H locs hr w => ?_)
  obtain ⟨hI, hr9, -⟩ := hr
  refine b_tp hr9 ?_
  refine lv_iconst (v := nI 4) hx hb dL_secrets_126 (by decide) ?_
  refine lv_icmp_ne (tgt := 313) hx hb dL_secrets_127 (by decide) (fun c9 => absurd rfl c9) (fun c9 => ?_)
  refine lv_aload_n hx hb dL_secrets_130 rfl (lv_at hl 0 rfl) ?_
  refine lv_iconst (v := nI 3) hx hb dL_secrets_131 (by decide) ?_
  refine lv_iconst (v := nI 1) hx hb dL_secrets_132 (by decide) ?_
  refine lv_iconst (v := nI 5) hx hb dL_secrets_133 (by decide) ?_
  refine hs_calli w (va_runV (As := [.int (nI 3), .int (nI 1), .int (nI 5)]) (rest := []) X (n_shown l hl0 G _ a _ _ _ _ hI _ _ _ esq_12) (cwV 3 hts gL_secrets_X5_shown rfl rfl rfl (by decide +kernel) ⟨Nat.le_of_ble_eq_true rfl, Nat.le_of_ble_eq_true rfl⟩) ⟨b_blind, hs_recv E w, fun U9 hU9 hW9 => ⟨rfl, hs_pre E Z9 w hm9 U9 hU9 hW9⟩⟩ rfl rfl hl.1 rfl (lv_room (Nat.le_of_ble_eq_true rfl)) dL_secrets_134 ⟨Nat.le_of_ble_eq_true rfl, Nat.le_of_ble_eq_true rfl⟩) hm9 (fun r i H locs hr w => ?_)
  obtain ⟨hI, hr9, -⟩ := hr
  refine b_tp hr9 ?_
  refine lv_ldc (v := MIS) hx hb hown (hts (.constant RL 95 (-2000000001)) (by decide +kernel)) dL_secrets_137 ?_
  refine lv_icmp_ne (tgt := 313) hx hb dL_secrets_139 (by decide) (fun c9 => absurd rfl c9) (fun c9 => ?_)
  refine lv_aload_n hx hb dL_secrets_142 rfl (lv_at hl 0 rfl) ?_
  refine lv_iconst (v := nI 5) hx hb dL_secrets_143 (by decide) ?_
  refine hs_calli w (va_runV (As := [.int (nI 5)]) (rest := []) X (n_hidden l hl0 G _ a _ _ _ _ hI _ esq_13) (cwV 1 hts gL_secrets_X5_hidden rfl rfl rfl (by decide +kernel) ⟨Nat.le_of_ble_eq_true rfl, Nat.le_of_ble_eq_true rfl⟩) ⟨b_blind, hs_recv E w, fun U9 hU9 hW9 => ⟨rfl, hs_pre E Z9 w hm9 U9 hU9 hW9⟩⟩ rfl rfl hl.1 rfl (lv_room (Nat.le_of_ble_eq_true rfl)) dL_secrets_144 ⟨Nat.le_of_ble_eq_true rfl, Nat.le_of_ble_eq_true rfl⟩) hm9 (fun r i H locs hr w => ?_)
  obtain ⟨hI, hr9, -⟩ := hr
  refine b_tp hr9 ?_
  refine lv_iconst (v := nI 5) hx hb dL_secrets_147 (by decide) ?_
  refine lv_icmp_ne (tgt := 313) hx hb dL_secrets_148 (by decide) (fun c9 => absurd rfl c9) (fun c9 => ?_)
  refine lv_aload_n hx hb dL_secrets_151 rfl (lv_at hl 0 rfl) ?_
  refine lv_iconst (v := nI 4) hx hb dL_secrets_152 (by decide) ?_
  refine hs_calli w (va_runV (As := [.int (nI 4)]) (rest := []) X (n_hidden l hl0 G _ a _ _ _ _ hI _ esq_14) (cwV 1 hts gL_secrets_X5_hidden rfl rfl rfl (by decide +kernel) ⟨Nat.le_of_ble_eq_true rfl, Nat.le_of_ble_eq_true rfl⟩) ⟨b_blind, hs_recv E w, fun U9 hU9 hW9 => ⟨rfl, hs_pre E Z9 w hm9 U9 hU9 hW9⟩⟩ rfl rfl hl.1 rfl (lv_room (Nat.le_of_ble_eq_true rfl)) dL_secrets_153 ⟨Nat.le_of_ble_eq_true rfl, Nat.le_of_ble_eq_true rfl⟩) hm9 (fun r i H locs hr w => ?_)
  obtain ⟨hI, hr9, -⟩ := hr
  refine b_tp hr9 ?_
  refine lv_if_ne (tgt := 313) hx hb dL_secrets_156 (by decide) (fun c9 => absurd rfl c9) (fun c9 => ?_)
  refine lv_aload_n hx hb dL_secrets_159 rfl (lv_at hl 0 rfl) ?_
  refine lv_iconst (v := nI 1) hx hb dL_secrets_160 (by decide) ?_
  refine lv_iconst (v := nI 1) hx hb dL_secrets_161 (by decide) ?_
  refine lv_iconst (v := nI 5) hx hb dL_secrets_162 (by decide) ?_
  refine lv_iconst (v := nI 2) hx hb dL_secrets_163 (by decide) ?_
  refine hs_calli w (va_runV (As := [.int (nI 1), .int (nI 1), .int (nI 5), .int (nI 2)]) (rest := []) X (n_value l hl0 G _ a _ _ _ _ hI _ _ _ _ esq_15) (cwV 4 hts gL_secrets_X5_value rfl rfl rfl (by decide +kernel) ⟨Nat.le_of_ble_eq_true rfl, Nat.le_of_ble_eq_true rfl⟩) ⟨b_blind, hs_recv E w, fun U9 hU9 hW9 => ⟨rfl, hs_pre E Z9 w hm9 U9 hU9 hW9⟩⟩ rfl rfl hl.1 rfl (lv_room (Nat.le_of_ble_eq_true rfl)) dL_secrets_164 ⟨Nat.le_of_ble_eq_true rfl, Nat.le_of_ble_eq_true rfl⟩) hm9 (fun r i H locs hr w => ?_)
  obtain ⟨hI, hr9, -⟩ := hr
  refine b_tp hr9 ?_
  refine lv_bipush (v := nI 12) hx hb dL_secrets_167 (by decide) ?_
  refine lv_icmp_ne (tgt := 313) hx hb dL_secrets_169 (by decide) (fun c9 => absurd rfl c9) (fun c9 => ?_)
  refine lv_aload_n hx hb dL_secrets_172 rfl (lv_at hl 0 rfl) ?_
  refine lv_iconst (v := nI 1) hx hb dL_secrets_173 (by decide) ?_
  refine lv_iconst (v := nI 1) hx hb dL_secrets_174 (by decide) ?_
  refine lv_iconst (v := nI 5) hx hb dL_secrets_175 (by decide) ?_
  refine lv_iconst (v := nI 1) hx hb dL_secrets_176 (by decide) ?_
  refine b_tp (show nI 1 = bI true from rfl) ?_
  refine hs_calli w (va_runV (As := [.int (nI 1), .int (nI 1), .int (nI 5), .int (bI true)]) (rest := []) X (n_secret l hl0 G _ a _ _ _ _ hI _ _ _ _ esq_16) (cwV 4 hts gL_secrets_X5_secret rfl rfl rfl (by decide +kernel) ⟨Nat.le_of_ble_eq_true rfl, Nat.le_of_ble_eq_true rfl⟩) ⟨b_blind, hs_recv E w, fun U9 hU9 hW9 => ⟨rfl, hs_pre E Z9 w hm9 U9 hU9 hW9⟩⟩ rfl rfl hl.1 rfl (lv_room (Nat.le_of_ble_eq_true rfl)) dL_secrets_177 ⟨Nat.le_of_ble_eq_true rfl, Nat.le_of_ble_eq_true rfl⟩) hm9 (fun r i H locs hr w => ?_)
  obtain ⟨hI, hr9, -⟩ := hr
  refine b_tp hr9 ?_
  refine lv_iconst (v := nI 5) hx hb dL_secrets_180 (by decide) ?_
  refine lv_icmp_ne (tgt := 313) hx hb dL_secrets_181 (by decide) (fun c9 => absurd rfl c9) (fun c9 => ?_)
  refine lv_aload_n hx hb dL_secrets_184 rfl (lv_at hl 0 rfl) ?_
  refine lv_iconst (v := nI 1) hx hb dL_secrets_185 (by decide) ?_
  refine lv_iconst (v := nI 1) hx hb dL_secrets_186 (by decide) ?_
  refine lv_iconst (v := nI 5) hx hb dL_secrets_187 (by decide) ?_
  refine lv_iconst (v := nI 0) hx hb dL_secrets_188 (by decide) ?_
  refine b_tp (show nI 0 = bI false from rfl) ?_
  refine hs_calli w (va_runV (As := [.int (nI 1), .int (nI 1), .int (nI 5), .int (bI false)]) (rest := []) X (n_secret l hl0 G _ a _ _ _ _ hI _ _ _ _ esq_17) (cwV 4 hts gL_secrets_X5_secret rfl rfl rfl (by decide +kernel) ⟨Nat.le_of_ble_eq_true rfl, Nat.le_of_ble_eq_true rfl⟩) ⟨b_blind, hs_recv E w, fun U9 hU9 hW9 => ⟨rfl, hs_pre E Z9 w hm9 U9 hU9 hW9⟩⟩ rfl rfl hl.1 rfl (lv_room (Nat.le_of_ble_eq_true rfl)) dL_secrets_189 ⟨Nat.le_of_ble_eq_true rfl, Nat.le_of_ble_eq_true rfl⟩) hm9 (fun r i H locs hr w => ?_)
  obtain ⟨hI, hr9, -⟩ := hr
  refine b_tp hr9 ?_
  refine lv_if_ne (tgt := 313) hx hb dL_secrets_192 (by decide) (fun c9 => absurd rfl c9) (fun c9 => ?_)
  refine lv_aload_n hx hb dL_secrets_195 rfl (lv_at hl 0 rfl) ?_
  refine lv_iconst (v := nI 0) hx hb dL_secrets_196 (by decide) ?_
  refine lv_iconst (v := nI 1) hx hb dL_secrets_197 (by decide) ?_
  refine lv_iconst (v := nI 5) hx hb dL_secrets_198 (by decide) ?_
  refine lv_iconst (v := nI 1) hx hb dL_secrets_199 (by decide) ?_
  refine b_tp (show nI 1 = bI true from rfl) ?_
  refine hs_calli w (va_runV (As := [.int (nI 0), .int (nI 1), .int (nI 5), .int (bI true)]) (rest := []) X (n_secret l hl0 G _ a _ _ _ _ hI _ _ _ _ esq_18) (cwV 4 hts gL_secrets_X5_secret rfl rfl rfl (by decide +kernel) ⟨Nat.le_of_ble_eq_true rfl, Nat.le_of_ble_eq_true rfl⟩) ⟨b_blind, hs_recv E w, fun U9 hU9 hW9 => ⟨rfl, hs_pre E Z9 w hm9 U9 hU9 hW9⟩⟩ rfl rfl hl.1 rfl (lv_room (Nat.le_of_ble_eq_true rfl)) dL_secrets_200 ⟨Nat.le_of_ble_eq_true rfl, Nat.le_of_ble_eq_true rfl⟩) hm9 (fun r i H locs hr w => ?_)
  obtain ⟨hI, hr9, -⟩ := hr
  refine b_tp hr9 ?_
  refine lv_iconst (v := nI 5) hx hb dL_secrets_203 (by decide) ?_
  refine lv_icmp_ne (tgt := 313) hx hb dL_secrets_204 (by decide) (fun c9 => absurd rfl c9) (fun c9 => ?_)
  exact kk i _ _ _ hI w (lv_sub hl [0] rfl)
set_option maxHeartbeats 4000000 in
set_option maxRecDepth 100000 in
theorem sg_secrets_1 {p : Program} {l : Launch} (hl0 : l.stackTraces = false) {e : Env} {s : State} {m : MethodId} {below : List Frame} {meth : Method} {c : Code} {G : bG} {args : Array Value} {Q : State → Prop} (X : CallFix p m c cL_secrets 1 s args wsL_secrets RL) (E : bE G vwCl bNW bSW s) {a : Nat → Nat} (Z9 : bZ (hs_M a) s) (hm9 : ∀ q ∈ hs_M a, Aw (hs_M a) s.heap.size q) {i : hs_I} {H : Heap} {locs : List Loc} {ls : Array Slot} (hI : hs_Inv es_4 i) (w : bSt G vwCl (hs_M a) s (hs_W G a es_4 i) H locs) (hl : lv_has ls 1 [(0, .ref (a 0))])
    (kk : ∀ (i : hs_I) (H : Heap) (locs : List Loc) (ls : Array Slot), hs_Inv es_7 i → bSt G vwCl (hs_M a) s (hs_W G a es_7 i) H locs → lv_has ls 1 [(0, .ref (a 0))] → W p l e ({ frames := 10, cells := 427, slots := 2562, locals := 237 }) s m args below meth c H locs 55 330 Q (F0 m 464 ls [])) : W p l e ({ frames := 10, cells := 427, slots := 2562, locals := 237 }) s m args below meth c H locs 19 114 Q (F0 m 207 ls []) := by
  have hx := X.1
  have hb := X.2.1
  have hml := X.2.2.1
  have hown := X.2.2.2.1
  have hts := X.2.2.2.2
  refine lv_aload_n hx hb dL_secrets_207 rfl (lv_at hl 0 rfl) ?_
  refine lv_iconst (v := nI 0) hx hb dL_secrets_208 (by decide) ?_
  refine lv_iconst (v := nI 1) hx hb dL_secrets_209 (by decide) ?_
  refine lv_iconst (v := nI 5) hx hb dL_secrets_210 (by decide) ?_
  refine hs_calli w (va_runV (As := [.int (nI 0), .int (nI 1), .int (nI 5)]) (rest := []) X (n_shown l hl0 G _ a _ _ _ _ hI _ _ _ esq_19) (cwV 3 hts gL_secrets_X5_shown rfl rfl rfl (by decide +kernel) ⟨Nat.le_of_ble_eq_true rfl, Nat.le_of_ble_eq_true rfl⟩) ⟨b_blind, hs_recv E w, fun U9 hU9 hW9 => ⟨rfl, hs_pre E Z9 w hm9 U9 hU9 hW9⟩⟩ rfl rfl hl.1 rfl (lv_room (Nat.le_of_ble_eq_true rfl)) dL_secrets_211 ⟨Nat.le_of_ble_eq_true rfl, Nat.le_of_ble_eq_true rfl⟩) hm9 (fun r i H locs hr w => ?_)
  obtain ⟨hI, hr9, -⟩ := hr
  refine b_tp hr9 ?_
  refine lv_ldc (v := HID) hx hb hown (hts (.constant RL 108 (-2000000002)) (by decide +kernel)) dL_secrets_214 ?_
  refine lv_icmp_ne (tgt := 313) hx hb dL_secrets_216 (by decide) (fun c9 => absurd rfl c9) (fun c9 => ?_)
  refine lv_aload_n hx hb dL_secrets_219 rfl (lv_at hl 0 rfl) ?_
  refine lv_iconst (v := nI 2) hx hb dL_secrets_220 (by decide) ?_
  refine lv_iconst (v := nI 1) hx hb dL_secrets_221 (by decide) ?_
  refine lv_iconst (v := nI 5) hx hb dL_secrets_222 (by decide) ?_
  refine hs_calli w (va_runV (As := [.int (nI 2), .int (nI 1), .int (nI 5)]) (rest := []) X (n_shown l hl0 G _ a _ _ _ _ hI _ _ _ esq_20) (cwV 3 hts gL_secrets_X5_shown rfl rfl rfl (by decide +kernel) ⟨Nat.le_of_ble_eq_true rfl, Nat.le_of_ble_eq_true rfl⟩) ⟨b_blind, hs_recv E w, fun U9 hU9 hW9 => ⟨rfl, hs_pre E Z9 w hm9 U9 hU9 hW9⟩⟩ rfl rfl hl.1 rfl (lv_room (Nat.le_of_ble_eq_true rfl)) dL_secrets_223 ⟨Nat.le_of_ble_eq_true rfl, Nat.le_of_ble_eq_true rfl⟩) hm9 (fun r i H locs hr w => ?_)
  obtain ⟨hI, hr9, -⟩ := hr
  refine b_tp hr9 ?_
  refine lv_ldc (v := HID) hx hb hown (hts (.constant RL 108 (-2000000002)) (by decide +kernel)) dL_secrets_226 ?_
  refine lv_icmp_ne (tgt := 313) hx hb dL_secrets_228 (by decide) (fun c9 => absurd rfl c9) (fun c9 => ?_)
  refine lv_aload_n hx hb dL_secrets_231 rfl (lv_at hl 0 rfl) ?_
  refine lv_iconst (v := nI 0) hx hb dL_secrets_232 (by decide) ?_
  refine lv_iconst (v := nI 2) hx hb dL_secrets_233 (by decide) ?_
  refine lv_iconst (v := nI 5) hx hb dL_secrets_234 (by decide) ?_
  refine hs_calli w (va_runV (As := [.int (nI 0), .int (nI 2), .int (nI 5)]) (rest := []) X (n_shown l hl0 G _ a _ _ _ _ hI _ _ _ esq_21) (cwV 3 hts gL_secrets_X5_shown rfl rfl rfl (by decide +kernel) ⟨Nat.le_of_ble_eq_true rfl, Nat.le_of_ble_eq_true rfl⟩) ⟨b_blind, hs_recv E w, fun U9 hU9 hW9 => ⟨rfl, hs_pre E Z9 w hm9 U9 hU9 hW9⟩⟩ rfl rfl hl.1 rfl (lv_room (Nat.le_of_ble_eq_true rfl)) dL_secrets_235 ⟨Nat.le_of_ble_eq_true rfl, Nat.le_of_ble_eq_true rfl⟩) hm9 (fun r i H locs hr w => ?_)
  obtain ⟨hI, hr9, -⟩ := hr
  refine b_tp hr9 ?_
  refine lv_ldc (v := HID) hx hb hown (hts (.constant RL 108 (-2000000002)) (by decide +kernel)) dL_secrets_238 ?_
  refine lv_icmp_ne (tgt := 313) hx hb dL_secrets_240 (by decide) (fun c9 => absurd rfl c9) (fun c9 => ?_)
  refine lv_aload_n hx hb dL_secrets_243 rfl (lv_at hl 0 rfl) ?_
  refine lv_iconst (v := nI 2) hx hb dL_secrets_244 (by decide) ?_
  refine lv_iconst (v := nI 2) hx hb dL_secrets_245 (by decide) ?_
  refine lv_iconst (v := nI 5) hx hb dL_secrets_246 (by decide) ?_
  refine hs_calli w (va_runV (As := [.int (nI 2), .int (nI 2), .int (nI 5)]) (rest := []) X (n_shown l hl0 G _ a _ _ _ _ hI _ _ _ esq_22) (cwV 3 hts gL_secrets_X5_shown rfl rfl rfl (by decide +kernel) ⟨Nat.le_of_ble_eq_true rfl, Nat.le_of_ble_eq_true rfl⟩) ⟨b_blind, hs_recv E w, fun U9 hU9 hW9 => ⟨rfl, hs_pre E Z9 w hm9 U9 hU9 hW9⟩⟩ rfl rfl hl.1 rfl (lv_room (Nat.le_of_ble_eq_true rfl)) dL_secrets_247 ⟨Nat.le_of_ble_eq_true rfl, Nat.le_of_ble_eq_true rfl⟩) hm9 (fun r i H locs hr w => ?_)
  obtain ⟨hI, hr9, -⟩ := hr
  refine b_tp hr9 ?_
  refine lv_ldc (v := HID) hx hb hown (hts (.constant RL 108 (-2000000002)) (by decide +kernel)) dL_secrets_250 ?_
  refine lv_icmp_ne (tgt := 313) hx hb dL_secrets_252 (by decide) (fun c9 => absurd rfl c9) (fun c9 => ?_)
  refine lv_aload_n hx hb dL_secrets_255 rfl (lv_at hl 0 rfl) ?_
  refine lv_iconst (v := nI 3) hx hb dL_secrets_256 (by decide) ?_
  refine lv_iconst (v := nI 2) hx hb dL_secrets_257 (by decide) ?_
  refine lv_iconst (v := nI 5) hx hb dL_secrets_258 (by decide) ?_
  refine hs_calli w (va_runV (As := [.int (nI 3), .int (nI 2), .int (nI 5)]) (rest := []) X (n_shown l hl0 G _ a _ _ _ _ hI _ _ _ esq_23) (cwV 3 hts gL_secrets_X5_shown rfl rfl rfl (by decide +kernel) ⟨Nat.le_of_ble_eq_true rfl, Nat.le_of_ble_eq_true rfl⟩) ⟨b_blind, hs_recv E w, fun U9 hU9 hW9 => ⟨rfl, hs_pre E Z9 w hm9 U9 hU9 hW9⟩⟩ rfl rfl hl.1 rfl (lv_room (Nat.le_of_ble_eq_true rfl)) dL_secrets_259 ⟨Nat.le_of_ble_eq_true rfl, Nat.le_of_ble_eq_true rfl⟩) hm9 (fun r i H locs hr w => ?_)
  obtain ⟨hI, hr9, -⟩ := hr
  refine b_tp hr9 ?_
  refine lv_ldc (v := HID) hx hb hown (hts (.constant RL 108 (-2000000002)) (by decide +kernel)) dL_secrets_262 ?_
  refine lv_icmp_ne (tgt := 313) hx hb dL_secrets_264 (by decide) (fun c9 => absurd rfl c9) (fun c9 => ?_)
  refine lv_aload_n hx hb dL_secrets_267 rfl (lv_at hl 0 rfl) ?_
  refine lv_iconst (v := nI 1) hx hb dL_secrets_268 (by decide) ?_
  refine lv_iconst (v := nI 1) hx hb dL_secrets_269 (by decide) ?_
  refine lv_iconst (v := nI 5) hx hb dL_secrets_270 (by decide) ?_
  refine hs_calli w (va_runV (As := [.int (nI 1), .int (nI 1), .int (nI 5)]) (rest := []) X (n_shown l hl0 G _ a _ _ _ _ hI _ _ _ esq_24) (cwV 3 hts gL_secrets_X5_shown rfl rfl rfl (by decide +kernel) ⟨Nat.le_of_ble_eq_true rfl, Nat.le_of_ble_eq_true rfl⟩) ⟨b_blind, hs_recv E w, fun U9 hU9 hW9 => ⟨rfl, hs_pre E Z9 w hm9 U9 hU9 hW9⟩⟩ rfl rfl hl.1 rfl (lv_room (Nat.le_of_ble_eq_true rfl)) dL_secrets_271 ⟨Nat.le_of_ble_eq_true rfl, Nat.le_of_ble_eq_true rfl⟩) hm9 (fun r i H locs hr w => ?_)
  obtain ⟨hI, hr9, -⟩ := hr
  refine b_tp hr9 ?_
  refine lv_bipush (v := nI 12) hx hb dL_secrets_274 (by decide) ?_
  refine lv_icmp_ne (tgt := 313) hx hb dL_secrets_276 (by decide) (fun c9 => absurd rfl c9) (fun c9 => ?_)
  refine lv_aload_n hx hb dL_secrets_279 rfl (lv_at hl 0 rfl) ?_
  refine lv_iconst (v := nI 0) hx hb dL_secrets_280 (by decide) ?_
  refine lv_iconst (v := nI 1) hx hb dL_secrets_281 (by decide) ?_
  refine lv_iconst (v := nI 5) hx hb dL_secrets_282 (by decide) ?_
  refine lv_iconst (v := nI 0) hx hb dL_secrets_283 (by decide) ?_
  refine b_tp (show nI 0 = bI false from rfl) ?_
  refine hs_calli w (va_runV (As := [.int (nI 0), .int (nI 1), .int (nI 5), .int (bI false)]) (rest := []) X (n_secret l hl0 G _ a _ _ _ _ hI _ _ _ _ esq_25) (cwV 4 hts gL_secrets_X5_secret rfl rfl rfl (by decide +kernel) ⟨Nat.le_of_ble_eq_true rfl, Nat.le_of_ble_eq_true rfl⟩) ⟨b_blind, hs_recv E w, fun U9 hU9 hW9 => ⟨rfl, hs_pre E Z9 w hm9 U9 hU9 hW9⟩⟩ rfl rfl hl.1 rfl (lv_room (Nat.le_of_ble_eq_true rfl)) dL_secrets_284 ⟨Nat.le_of_ble_eq_true rfl, Nat.le_of_ble_eq_true rfl⟩) hm9 (fun r i H locs hr w => ?_)
  obtain ⟨hI, hr9, -⟩ := hr
  refine b_tp hr9 ?_
  refine lv_if_ne (tgt := 313) hx hb dL_secrets_287 (by decide) (fun c9 => absurd rfl c9) (fun c9 => ?_)
  refine lv_aload_n hx hb dL_secrets_290 rfl (lv_at hl 0 rfl) ?_
  refine lv_iconst (v := nI 3) hx hb dL_secrets_291 (by decide) ?_
  refine lv_iconst (v := nI 1) hx hb dL_secrets_292 (by decide) ?_
  refine lv_iconst (v := nI 5) hx hb dL_secrets_293 (by decide) ?_
  refine lv_iconst (v := nI 1) hx hb dL_secrets_294 (by decide) ?_
  refine b_tp (show nI 1 = bI true from rfl) ?_
  refine hs_calli w (va_runV (As := [.int (nI 3), .int (nI 1), .int (nI 5), .int (bI true)]) (rest := []) X (n_secret l hl0 G _ a _ _ _ _ hI _ _ _ _ esq_26) (cwV 4 hts gL_secrets_X5_secret rfl rfl rfl (by decide +kernel) ⟨Nat.le_of_ble_eq_true rfl, Nat.le_of_ble_eq_true rfl⟩) ⟨b_blind, hs_recv E w, fun U9 hU9 hW9 => ⟨rfl, hs_pre E Z9 w hm9 U9 hU9 hW9⟩⟩ rfl rfl hl.1 rfl (lv_room (Nat.le_of_ble_eq_true rfl)) dL_secrets_295 ⟨Nat.le_of_ble_eq_true rfl, Nat.le_of_ble_eq_true rfl⟩) hm9 (fun r i H locs hr w => ?_)
  obtain ⟨hI, hr9, -⟩ := hr
  refine b_tp hr9 ?_
  refine lv_if_ne (tgt := 313) hx hb dL_secrets_298 (by decide) (fun c9 => absurd rfl c9) (fun c9 => ?_)
  refine lv_aload_n hx hb dL_secrets_301 rfl (lv_at hl 0 rfl) ?_
  refine lv_iconst (v := nI 3) hx hb dL_secrets_302 (by decide) ?_
  refine lv_iconst (v := nI 0) hx hb dL_secrets_303 (by decide) ?_
  refine lv_bipush (v := nI 7) hx hb dL_secrets_304 (by decide) ?_
  refine lv_iconst (v := nI 1) hx hb dL_secrets_306 (by decide) ?_
  refine b_tp (show nI 1 = bI true from rfl) ?_
  refine hs_calli w (va_runV (As := [.int (nI 3), .int (nI 0), .int (nI 7), .int (bI true)]) (rest := []) X (n_secret l hl0 G _ a _ _ _ _ hI _ _ _ _ esq_27) (cwV 4 hts gL_secrets_X5_secret rfl rfl rfl (by decide +kernel) ⟨Nat.le_of_ble_eq_true rfl, Nat.le_of_ble_eq_true rfl⟩) ⟨b_blind, hs_recv E w, fun U9 hU9 hW9 => ⟨rfl, hs_pre E Z9 w hm9 U9 hU9 hW9⟩⟩ rfl rfl hl.1 rfl (lv_room (Nat.le_of_ble_eq_true rfl)) dL_secrets_307 ⟨Nat.le_of_ble_eq_true rfl, Nat.le_of_ble_eq_true rfl⟩) hm9 (fun r i H locs hr w => ?_)
  obtain ⟨hI, hr9, -⟩ := hr
  refine b_tp hr9 ?_
  refine lv_if_eq (tgt := 315) hx hb dL_secrets_310 (by decide) (fun c9 => ?_) (fun c9 => absurd rfl c9)
  refine lv_aload_n hx hb dL_secrets_315 rfl (lv_at hl 0 rfl) ?_
  refine lv_iconst (v := -1) hx hb dL_secrets_316 (by decide) ?_
  refine lv_iconst (v := -1) hx hb dL_secrets_317 (by decide) ?_
  refine lv_iconst (v := nI 0) hx hb dL_secrets_318 (by decide) ?_
  refine lv_bipush (v := nI 11) hx hb dL_secrets_319 (by decide) ?_
  refine lv_iconst (v := nI 0) hx hb dL_secrets_321 (by decide) ?_
  refine lv_iconst (v := nI 0) hx hb dL_secrets_322 (by decide) ?_
  refine hs_calli w (vx_runSW (As := [.ref (a 0), .int (-1), .int (-1), .int (nI 0), .int (nI 11), .int (nI 0), .int (nI 0)]) (rest := []) X (fS l hl0 G _ a _ _ hI _ _ _ _ _ _  _ esq_28) (vx_cwSW 7 hts gL_secrets_L_find rfl rfl rfl (by decide +kernel) ⟨Nat.le_of_ble_eq_true rfl, Nat.le_of_ble_eq_true rfl⟩) ⟨b_blind, fun U9 hU9 hW9 => ⟨rfl, hs_pre E Z9 w hm9 U9 hU9 hW9⟩⟩ rfl rfl hl.1 rfl (lv_room (Nat.le_of_ble_eq_true rfl)) dL_secrets_323 ⟨Nat.le_of_ble_eq_true rfl, Nat.le_of_ble_eq_true rfl⟩) hm9 (fun r i H locs hr w => ?_)
  obtain ⟨hI, hr9⟩ := hr
  refine b_tp hr9 ?_
  refine lv_sipush (v := nI 5000) hx hb dL_secrets_326 (by decide) ?_
  refine lv_icmp_ne (tgt := 605) hx hb dL_secrets_329 (by decide) (fun c9 => absurd rfl c9) (fun c9 => ?_)
  refine lv_aload_n hx hb dL_secrets_332 rfl (lv_at hl 0 rfl) ?_
  refine lv_iconst (v := -1) hx hb dL_secrets_333 (by decide) ?_
  refine lv_iconst (v := -1) hx hb dL_secrets_334 (by decide) ?_
  refine lv_iconst (v := nI 0) hx hb dL_secrets_335 (by decide) ?_
  refine lv_bipush (v := nI 11) hx hb dL_secrets_336 (by decide) ?_
  refine lv_iconst (v := nI 0) hx hb dL_secrets_338 (by decide) ?_
  refine lv_iconst (v := nI 1) hx hb dL_secrets_339 (by decide) ?_
  refine hs_calli w (vx_runSW (As := [.ref (a 0), .int (-1), .int (-1), .int (nI 0), .int (nI 11), .int (nI 0), .int (nI 1)]) (rest := []) X (fS l hl0 G _ a _ _ hI _ _ _ _ _ _  _ esq_29) (vx_cwSW 7 hts gL_secrets_L_find rfl rfl rfl (by decide +kernel) ⟨Nat.le_of_ble_eq_true rfl, Nat.le_of_ble_eq_true rfl⟩) ⟨b_blind, fun U9 hU9 hW9 => ⟨rfl, hs_pre E Z9 w hm9 U9 hU9 hW9⟩⟩ rfl rfl hl.1 rfl (lv_room (Nat.le_of_ble_eq_true rfl)) dL_secrets_340 ⟨Nat.le_of_ble_eq_true rfl, Nat.le_of_ble_eq_true rfl⟩) hm9 (fun r i H locs hr w => ?_)
  obtain ⟨hI, hr9⟩ := hr
  refine b_tp hr9 ?_
  refine lv_sipush (v := nI 5001) hx hb dL_secrets_343 (by decide) ?_
  refine lv_icmp_ne (tgt := 605) hx hb dL_secrets_346 (by decide) (fun c9 => absurd rfl c9) (fun c9 => ?_)
  refine lv_aload_n hx hb dL_secrets_349 rfl (lv_at hl 0 rfl) ?_
  refine lv_iconst (v := -1) hx hb dL_secrets_350 (by decide) ?_
  refine lv_iconst (v := -1) hx hb dL_secrets_351 (by decide) ?_
  refine lv_iconst (v := nI 0) hx hb dL_secrets_352 (by decide) ?_
  refine lv_bipush (v := nI 11) hx hb dL_secrets_353 (by decide) ?_
  refine lv_iconst (v := nI 0) hx hb dL_secrets_355 (by decide) ?_
  refine lv_iconst (v := nI 2) hx hb dL_secrets_356 (by decide) ?_
  refine hs_calli w (vx_runSW (As := [.ref (a 0), .int (-1), .int (-1), .int (nI 0), .int (nI 11), .int (nI 0), .int (nI 2)]) (rest := []) X (fS l hl0 G _ a _ _ hI _ _ _ _ _ _  _ esq_30) (vx_cwSW 7 hts gL_secrets_L_find rfl rfl rfl (by decide +kernel) ⟨Nat.le_of_ble_eq_true rfl, Nat.le_of_ble_eq_true rfl⟩) ⟨b_blind, fun U9 hU9 hW9 => ⟨rfl, hs_pre E Z9 w hm9 U9 hU9 hW9⟩⟩ rfl rfl hl.1 rfl (lv_room (Nat.le_of_ble_eq_true rfl)) dL_secrets_357 ⟨Nat.le_of_ble_eq_true rfl, Nat.le_of_ble_eq_true rfl⟩) hm9 (fun r i H locs hr w => ?_)
  obtain ⟨hI, hr9⟩ := hr
  refine b_tp hr9 ?_
  refine lv_sipush (v := nI 5021) hx hb dL_secrets_360 (by decide) ?_
  refine lv_icmp_ne (tgt := 605) hx hb dL_secrets_363 (by decide) (fun c9 => absurd rfl c9) (fun c9 => ?_)
  refine lv_aload_n hx hb dL_secrets_366 rfl (lv_at hl 0 rfl) ?_
  refine lv_iconst (v := -1) hx hb dL_secrets_367 (by decide) ?_
  refine lv_iconst (v := -1) hx hb dL_secrets_368 (by decide) ?_
  refine lv_iconst (v := nI 0) hx hb dL_secrets_369 (by decide) ?_
  refine lv_bipush (v := nI 11) hx hb dL_secrets_370 (by decide) ?_
  refine lv_iconst (v := nI 0) hx hb dL_secrets_372 (by decide) ?_
  refine lv_iconst (v := nI 3) hx hb dL_secrets_373 (by decide) ?_
  refine hs_calli w (vx_runSW (As := [.ref (a 0), .int (-1), .int (-1), .int (nI 0), .int (nI 11), .int (nI 0), .int (nI 3)]) (rest := []) X (fS l hl0 G _ a _ _ hI _ _ _ _ _ _  _ esq_31) (vx_cwSW 7 hts gL_secrets_L_find rfl rfl rfl (by decide +kernel) ⟨Nat.le_of_ble_eq_true rfl, Nat.le_of_ble_eq_true rfl⟩) ⟨b_blind, fun U9 hU9 hW9 => ⟨rfl, hs_pre E Z9 w hm9 U9 hU9 hW9⟩⟩ rfl rfl hl.1 rfl (lv_room (Nat.le_of_ble_eq_true rfl)) dL_secrets_374 ⟨Nat.le_of_ble_eq_true rfl, Nat.le_of_ble_eq_true rfl⟩) hm9 (fun r i H locs hr w => ?_)
  obtain ⟨hI, hr9⟩ := hr
  refine b_tp hr9 ?_
  refine lv_sipush (v := nI 5022) hx hb dL_secrets_377 (by decide) ?_
  refine lv_icmp_ne (tgt := 605) hx hb dL_secrets_380 (by decide) (fun c9 => absurd rfl c9) (fun c9 => ?_)
  refine lv_aload_n hx hb dL_secrets_383 rfl (lv_at hl 0 rfl) ?_
  refine lv_iconst (v := -1) hx hb dL_secrets_384 (by decide) ?_
  refine lv_iconst (v := -1) hx hb dL_secrets_385 (by decide) ?_
  refine lv_iconst (v := nI 5) hx hb dL_secrets_386 (by decide) ?_
  refine lv_iconst (v := nI 5) hx hb dL_secrets_387 (by decide) ?_
  refine lv_iconst (v := nI 0) hx hb dL_secrets_388 (by decide) ?_
  refine lv_iconst (v := nI 4) hx hb dL_secrets_389 (by decide) ?_
  refine hs_calli w (vx_runSW (As := [.ref (a 0), .int (-1), .int (-1), .int (nI 5), .int (nI 5), .int (nI 0), .int (nI 4)]) (rest := []) X (fS l hl0 G _ a _ _ hI _ _ _ _ _ _  _ esq_32) (vx_cwSW 7 hts gL_secrets_L_find rfl rfl rfl (by decide +kernel) ⟨Nat.le_of_ble_eq_true rfl, Nat.le_of_ble_eq_true rfl⟩) ⟨b_blind, fun U9 hU9 hW9 => ⟨rfl, hs_pre E Z9 w hm9 U9 hU9 hW9⟩⟩ rfl rfl hl.1 rfl (lv_room (Nat.le_of_ble_eq_true rfl)) dL_secrets_390 ⟨Nat.le_of_ble_eq_true rfl, Nat.le_of_ble_eq_true rfl⟩) hm9 (fun r i H locs hr w => ?_)
  obtain ⟨hI, hr9⟩ := hr
  refine b_tp hr9 ?_
  refine lv_sipush (v := nI 5041) hx hb dL_secrets_393 (by decide) ?_
  refine lv_icmp_ne (tgt := 605) hx hb dL_secrets_396 (by decide) (fun c9 => absurd rfl c9) (fun c9 => ?_)
  refine lv_aload_n hx hb dL_secrets_399 rfl (lv_at hl 0 rfl) ?_
  refine lv_iconst (v := -1) hx hb dL_secrets_400 (by decide) ?_
  refine lv_iconst (v := -1) hx hb dL_secrets_401 (by decide) ?_
  refine lv_iconst (v := nI 0) hx hb dL_secrets_402 (by decide) ?_
  refine lv_bipush (v := nI 11) hx hb dL_secrets_403 (by decide) ?_
  refine lv_iconst (v := nI 0) hx hb dL_secrets_405 (by decide) ?_
  refine lv_iconst (v := nI 5) hx hb dL_secrets_406 (by decide) ?_
  refine hs_calli w (vx_runSW (As := [.ref (a 0), .int (-1), .int (-1), .int (nI 0), .int (nI 11), .int (nI 0), .int (nI 5)]) (rest := []) X (fS l hl0 G _ a _ _ hI _ _ _ _ _ _  _ esq_33) (vx_cwSW 7 hts gL_secrets_L_find rfl rfl rfl (by decide +kernel) ⟨Nat.le_of_ble_eq_true rfl, Nat.le_of_ble_eq_true rfl⟩) ⟨b_blind, fun U9 hU9 hW9 => ⟨rfl, hs_pre E Z9 w hm9 U9 hU9 hW9⟩⟩ rfl rfl hl.1 rfl (lv_room (Nat.le_of_ble_eq_true rfl)) dL_secrets_407 ⟨Nat.le_of_ble_eq_true rfl, Nat.le_of_ble_eq_true rfl⟩) hm9 (fun r i H locs hr w => ?_)
  obtain ⟨hI, hr9⟩ := hr
  refine b_tp hr9 ?_
  refine lv_sipush (v := nI 5062) hx hb dL_secrets_410 (by decide) ?_
  refine lv_icmp_ne (tgt := 605) hx hb dL_secrets_413 (by decide) (fun c9 => absurd rfl c9) (fun c9 => ?_)
  refine lv_aload_n hx hb dL_secrets_416 rfl (lv_at hl 0 rfl) ?_
  refine lv_iconst (v := -1) hx hb dL_secrets_417 (by decide) ?_
  refine lv_iconst (v := -1) hx hb dL_secrets_418 (by decide) ?_
  refine lv_iconst (v := nI 0) hx hb dL_secrets_419 (by decide) ?_
  refine lv_bipush (v := nI 11) hx hb dL_secrets_420 (by decide) ?_
  refine lv_iconst (v := nI 0) hx hb dL_secrets_422 (by decide) ?_
  refine lv_bipush (v := nI 6) hx hb dL_secrets_423 (by decide) ?_
  refine hs_calli w (vx_runSW (As := [.ref (a 0), .int (-1), .int (-1), .int (nI 0), .int (nI 11), .int (nI 0), .int (nI 6)]) (rest := []) X (fS l hl0 G _ a _ _ hI _ _ _ _ _ _  _ esq_34) (vx_cwSW 7 hts gL_secrets_L_find rfl rfl rfl (by decide +kernel) ⟨Nat.le_of_ble_eq_true rfl, Nat.le_of_ble_eq_true rfl⟩) ⟨b_blind, fun U9 hU9 hW9 => ⟨rfl, hs_pre E Z9 w hm9 U9 hU9 hW9⟩⟩ rfl rfl hl.1 rfl (lv_room (Nat.le_of_ble_eq_true rfl)) dL_secrets_425 ⟨Nat.le_of_ble_eq_true rfl, Nat.le_of_ble_eq_true rfl⟩) hm9 (fun r i H locs hr w => ?_)
  obtain ⟨hI, hr9⟩ := hr
  refine b_tp hr9 ?_
  refine lv_iconst (v := -1) hx hb dL_secrets_428 (by decide) ?_
  refine lv_icmp_ne (tgt := 605) hx hb dL_secrets_429 (by decide) (fun c9 => absurd rfl c9) (fun c9 => ?_)
  refine lv_aload_n hx hb dL_secrets_432 rfl (lv_at hl 0 rfl) ?_
  refine lv_iconst (v := -1) hx hb dL_secrets_433 (by decide) ?_
  refine lv_iconst (v := -1) hx hb dL_secrets_434 (by decide) ?_
  refine lv_iconst (v := nI 0) hx hb dL_secrets_435 (by decide) ?_
  refine lv_bipush (v := nI 11) hx hb dL_secrets_436 (by decide) ?_
  refine lv_iconst (v := nI 1) hx hb dL_secrets_438 (by decide) ?_
  refine lv_iconst (v := nI 3) hx hb dL_secrets_439 (by decide) ?_
  refine hs_calli w (vx_runSW (As := [.ref (a 0), .int (-1), .int (-1), .int (nI 0), .int (nI 11), .int (nI 1), .int (nI 3)]) (rest := []) X (fS l hl0 G _ a _ _ hI _ _ _ _ _ _  _ esq_35) (vx_cwSW 7 hts gL_secrets_L_find rfl rfl rfl (by decide +kernel) ⟨Nat.le_of_ble_eq_true rfl, Nat.le_of_ble_eq_true rfl⟩) ⟨b_blind, fun U9 hU9 hW9 => ⟨rfl, hs_pre E Z9 w hm9 U9 hU9 hW9⟩⟩ rfl rfl hl.1 rfl (lv_room (Nat.le_of_ble_eq_true rfl)) dL_secrets_440 ⟨Nat.le_of_ble_eq_true rfl, Nat.le_of_ble_eq_true rfl⟩) hm9 (fun r i H locs hr w => ?_)
  obtain ⟨hI, hr9⟩ := hr
  refine b_tp hr9 ?_
  refine lv_sipush (v := nI 5022) hx hb dL_secrets_443 (by decide) ?_
  refine lv_icmp_ne (tgt := 605) hx hb dL_secrets_446 (by decide) (fun c9 => absurd rfl c9) (fun c9 => ?_)
  refine lv_aload_n hx hb dL_secrets_449 rfl (lv_at hl 0 rfl) ?_
  refine lv_iconst (v := -1) hx hb dL_secrets_450 (by decide) ?_
  refine lv_iconst (v := -1) hx hb dL_secrets_451 (by decide) ?_
  refine lv_iconst (v := nI 0) hx hb dL_secrets_452 (by decide) ?_
  refine lv_bipush (v := nI 11) hx hb dL_secrets_453 (by decide) ?_
  refine lv_iconst (v := nI 1) hx hb dL_secrets_455 (by decide) ?_
  refine lv_iconst (v := nI 4) hx hb dL_secrets_456 (by decide) ?_
  refine hs_calli w (vx_runSW (As := [.ref (a 0), .int (-1), .int (-1), .int (nI 0), .int (nI 11), .int (nI 1), .int (nI 4)]) (rest := []) X (fS l hl0 G _ a _ _ hI _ _ _ _ _ _  _ esq_36) (vx_cwSW 7 hts gL_secrets_L_find rfl rfl rfl (by decide +kernel) ⟨Nat.le_of_ble_eq_true rfl, Nat.le_of_ble_eq_true rfl⟩) ⟨b_blind, fun U9 hU9 hW9 => ⟨rfl, hs_pre E Z9 w hm9 U9 hU9 hW9⟩⟩ rfl rfl hl.1 rfl (lv_room (Nat.le_of_ble_eq_true rfl)) dL_secrets_457 ⟨Nat.le_of_ble_eq_true rfl, Nat.le_of_ble_eq_true rfl⟩) hm9 (fun r i H locs hr w => ?_)
  obtain ⟨hI, hr9⟩ := hr
  refine b_tp hr9 ?_
  refine lv_iconst (v := -1) hx hb dL_secrets_460 (by decide) ?_
  refine lv_icmp_ne (tgt := 605) hx hb dL_secrets_461 (by decide) (fun c9 => absurd rfl c9) (fun c9 => ?_)
  exact kk i _ _ _ hI w (lv_sub hl [0] rfl)
set_option maxHeartbeats 4000000 in
set_option maxRecDepth 100000 in
theorem sg_secrets_2 {p : Program} {l : Launch} (hl0 : l.stackTraces = false) {e : Env} {s : State} {m : MethodId} {below : List Frame} {meth : Method} {c : Code} {G : bG} {args : Array Value} {Q : State → Prop} (X : CallFix p m c cL_secrets 1 s args wsL_secrets RL) (E : bE G vwCl bNW bSW s) {a : Nat → Nat} (Z9 : bZ (hs_M a) s) (hm9 : ∀ q ∈ hs_M a, Aw (hs_M a) s.heap.size q) {i : hs_I} {H : Heap} {locs : List Loc} {ls : Array Slot} (hI : hs_Inv es_7 i) (w : bSt G vwCl (hs_M a) s (hs_W G a es_7 i) H locs) (hl : lv_has ls 1 [(0, .ref (a 0))])
    (kk : ∀ (i : hs_I) (H : Heap) (locs : List Loc) (ls : Array Slot), hs_Inv es_9 i → bSt G vwCl (hs_M a) s (hs_W G a es_9 i) H locs → lv_has ls 1 [(0, .ref (a 0))] → W p l e ({ frames := 10, cells := 427, slots := 2562, locals := 237 }) s m args below meth c H locs 93 558 Q (F0 m 711 ls [])) : W p l e ({ frames := 10, cells := 427, slots := 2562, locals := 237 }) s m args below meth c H locs 55 330 Q (F0 m 464 ls []) := by
  have hx := X.1
  have hb := X.2.1
  have hml := X.2.2.1
  have hown := X.2.2.2.1
  have hts := X.2.2.2.2
  refine lv_aload_n hx hb dL_secrets_464 rfl (lv_at hl 0 rfl) ?_
  refine lv_iconst (v := -1) hx hb dL_secrets_465 (by decide) ?_
  refine lv_iconst (v := -1) hx hb dL_secrets_466 (by decide) ?_
  refine lv_iconst (v := nI 0) hx hb dL_secrets_467 (by decide) ?_
  refine lv_bipush (v := nI 11) hx hb dL_secrets_468 (by decide) ?_
  refine lv_iconst (v := nI 3) hx hb dL_secrets_470 (by decide) ?_
  refine lv_iconst (v := nI 0) hx hb dL_secrets_471 (by decide) ?_
  refine hs_calli w (vx_runSW (As := [.ref (a 0), .int (-1), .int (-1), .int (nI 0), .int (nI 11), .int (nI 3), .int (nI 0)]) (rest := []) X (fS l hl0 G _ a _ _ hI _ _ _ _ _ _  _ esq_37) (vx_cwSW 7 hts gL_secrets_L_find rfl rfl rfl (by decide +kernel) ⟨Nat.le_of_ble_eq_true rfl, Nat.le_of_ble_eq_true rfl⟩) ⟨b_blind, fun U9 hU9 hW9 => ⟨rfl, hs_pre E Z9 w hm9 U9 hU9 hW9⟩⟩ rfl rfl hl.1 rfl (lv_room (Nat.le_of_ble_eq_true rfl)) dL_secrets_472 ⟨Nat.le_of_ble_eq_true rfl, Nat.le_of_ble_eq_true rfl⟩) hm9 (fun r i H locs hr w => ?_)
  obtain ⟨hI, hr9⟩ := hr
  refine b_tp hr9 ?_
  refine lv_iconst (v := -1) hx hb dL_secrets_475 (by decide) ?_
  refine lv_icmp_ne (tgt := 605) hx hb dL_secrets_476 (by decide) (fun c9 => absurd rfl c9) (fun c9 => ?_)
  refine lv_aload_n hx hb dL_secrets_479 rfl (lv_at hl 0 rfl) ?_
  refine lv_iconst (v := nI 2) hx hb dL_secrets_480 (by decide) ?_
  refine lv_iconst (v := -1) hx hb dL_secrets_481 (by decide) ?_
  refine lv_iconst (v := nI 0) hx hb dL_secrets_482 (by decide) ?_
  refine lv_bipush (v := nI 11) hx hb dL_secrets_483 (by decide) ?_
  refine lv_iconst (v := nI 0) hx hb dL_secrets_485 (by decide) ?_
  refine lv_iconst (v := nI 0) hx hb dL_secrets_486 (by decide) ?_
  refine hs_calli w (vx_runSW (As := [.ref (a 0), .int (nI 2), .int (-1), .int (nI 0), .int (nI 11), .int (nI 0), .int (nI 0)]) (rest := []) X (fS l hl0 G _ a _ _ hI _ _ _ _ _ _  _ esq_38) (vx_cwSW 7 hts gL_secrets_L_find rfl rfl rfl (by decide +kernel) ⟨Nat.le_of_ble_eq_true rfl, Nat.le_of_ble_eq_true rfl⟩) ⟨b_blind, fun U9 hU9 hW9 => ⟨rfl, hs_pre E Z9 w hm9 U9 hU9 hW9⟩⟩ rfl rfl hl.1 rfl (lv_room (Nat.le_of_ble_eq_true rfl)) dL_secrets_487 ⟨Nat.le_of_ble_eq_true rfl, Nat.le_of_ble_eq_true rfl⟩) hm9 (fun r i H locs hr w => ?_)
  obtain ⟨hI, hr9⟩ := hr
  refine b_tp hr9 ?_
  refine lv_sipush (v := nI 5041) hx hb dL_secrets_490 (by decide) ?_
  refine lv_icmp_ne (tgt := 605) hx hb dL_secrets_493 (by decide) (fun c9 => absurd rfl c9) (fun c9 => ?_)
  refine lv_aload_n hx hb dL_secrets_496 rfl (lv_at hl 0 rfl) ?_
  refine lv_iconst (v := nI 2) hx hb dL_secrets_497 (by decide) ?_
  refine lv_iconst (v := -1) hx hb dL_secrets_498 (by decide) ?_
  refine lv_iconst (v := nI 0) hx hb dL_secrets_499 (by decide) ?_
  refine lv_bipush (v := nI 11) hx hb dL_secrets_500 (by decide) ?_
  refine lv_iconst (v := nI 0) hx hb dL_secrets_502 (by decide) ?_
  refine lv_iconst (v := nI 1) hx hb dL_secrets_503 (by decide) ?_
  refine hs_calli w (vx_runSW (As := [.ref (a 0), .int (nI 2), .int (-1), .int (nI 0), .int (nI 11), .int (nI 0), .int (nI 1)]) (rest := []) X (fS l hl0 G _ a _ _ hI _ _ _ _ _ _  _ esq_39) (vx_cwSW 7 hts gL_secrets_L_find rfl rfl rfl (by decide +kernel) ⟨Nat.le_of_ble_eq_true rfl, Nat.le_of_ble_eq_true rfl⟩) ⟨b_blind, fun U9 hU9 hW9 => ⟨rfl, hs_pre E Z9 w hm9 U9 hU9 hW9⟩⟩ rfl rfl hl.1 rfl (lv_room (Nat.le_of_ble_eq_true rfl)) dL_secrets_504 ⟨Nat.le_of_ble_eq_true rfl, Nat.le_of_ble_eq_true rfl⟩) hm9 (fun r i H locs hr w => ?_)
  obtain ⟨hI, hr9⟩ := hr
  refine b_tp hr9 ?_
  refine lv_sipush (v := nI 5062) hx hb dL_secrets_507 (by decide) ?_
  refine lv_icmp_ne (tgt := 605) hx hb dL_secrets_510 (by decide) (fun c9 => absurd rfl c9) (fun c9 => ?_)
  refine lv_aload_n hx hb dL_secrets_513 rfl (lv_at hl 0 rfl) ?_
  refine lv_iconst (v := nI 2) hx hb dL_secrets_514 (by decide) ?_
  refine lv_iconst (v := -1) hx hb dL_secrets_515 (by decide) ?_
  refine lv_iconst (v := nI 0) hx hb dL_secrets_516 (by decide) ?_
  refine lv_bipush (v := nI 11) hx hb dL_secrets_517 (by decide) ?_
  refine lv_iconst (v := nI 0) hx hb dL_secrets_519 (by decide) ?_
  refine lv_iconst (v := nI 2) hx hb dL_secrets_520 (by decide) ?_
  refine hs_calli w (vx_runSW (As := [.ref (a 0), .int (nI 2), .int (-1), .int (nI 0), .int (nI 11), .int (nI 0), .int (nI 2)]) (rest := []) X (fS l hl0 G _ a _ _ hI _ _ _ _ _ _  _ esq_40) (vx_cwSW 7 hts gL_secrets_L_find rfl rfl rfl (by decide +kernel) ⟨Nat.le_of_ble_eq_true rfl, Nat.le_of_ble_eq_true rfl⟩) ⟨b_blind, fun U9 hU9 hW9 => ⟨rfl, hs_pre E Z9 w hm9 U9 hU9 hW9⟩⟩ rfl rfl hl.1 rfl (lv_room (Nat.le_of_ble_eq_true rfl)) dL_secrets_521 ⟨Nat.le_of_ble_eq_true rfl, Nat.le_of_ble_eq_true rfl⟩) hm9 (fun r i H locs hr w => ?_)
  obtain ⟨hI, hr9⟩ := hr
  refine b_tp hr9 ?_
  refine lv_iconst (v := -1) hx hb dL_secrets_524 (by decide) ?_
  refine lv_icmp_ne (tgt := 605) hx hb dL_secrets_525 (by decide) (fun c9 => absurd rfl c9) (fun c9 => ?_)
  refine lv_aload_n hx hb dL_secrets_528 rfl (lv_at hl 0 rfl) ?_
  refine lv_iconst (v := -1) hx hb dL_secrets_529 (by decide) ?_
  refine lv_iconst (v := nI 2) hx hb dL_secrets_530 (by decide) ?_
  refine lv_iconst (v := nI 5) hx hb dL_secrets_531 (by decide) ?_
  refine lv_iconst (v := nI 5) hx hb dL_secrets_532 (by decide) ?_
  refine lv_iconst (v := nI 0) hx hb dL_secrets_533 (by decide) ?_
  refine lv_iconst (v := nI 0) hx hb dL_secrets_534 (by decide) ?_
  refine hs_calli w (vx_runSW (As := [.ref (a 0), .int (-1), .int (nI 2), .int (nI 5), .int (nI 5), .int (nI 0), .int (nI 0)]) (rest := []) X (fS l hl0 G _ a _ _ hI _ _ _ _ _ _  _ esq_41) (vx_cwSW 7 hts gL_secrets_L_find rfl rfl rfl (by decide +kernel) ⟨Nat.le_of_ble_eq_true rfl, Nat.le_of_ble_eq_true rfl⟩) ⟨b_blind, fun U9 hU9 hW9 => ⟨rfl, hs_pre E Z9 w hm9 U9 hU9 hW9⟩⟩ rfl rfl hl.1 rfl (lv_room (Nat.le_of_ble_eq_true rfl)) dL_secrets_535 ⟨Nat.le_of_ble_eq_true rfl, Nat.le_of_ble_eq_true rfl⟩) hm9 (fun r i H locs hr w => ?_)
  obtain ⟨hI, hr9⟩ := hr
  refine b_tp hr9 ?_
  refine lv_sipush (v := nI 5022) hx hb dL_secrets_538 (by decide) ?_
  refine lv_icmp_ne (tgt := 605) hx hb dL_secrets_541 (by decide) (fun c9 => absurd rfl c9) (fun c9 => ?_)
  refine lv_aload_n hx hb dL_secrets_544 rfl (lv_at hl 0 rfl) ?_
  refine lv_iconst (v := -1) hx hb dL_secrets_545 (by decide) ?_
  refine lv_iconst (v := nI 2) hx hb dL_secrets_546 (by decide) ?_
  refine lv_iconst (v := nI 5) hx hb dL_secrets_547 (by decide) ?_
  refine lv_iconst (v := nI 5) hx hb dL_secrets_548 (by decide) ?_
  refine lv_iconst (v := nI 2) hx hb dL_secrets_549 (by decide) ?_
  refine lv_iconst (v := nI 1) hx hb dL_secrets_550 (by decide) ?_
  refine hs_calli w (vx_runSW (As := [.ref (a 0), .int (-1), .int (nI 2), .int (nI 5), .int (nI 5), .int (nI 2), .int (nI 1)]) (rest := []) X (fS l hl0 G _ a _ _ hI _ _ _ _ _ _  _ esq_42) (vx_cwSW 7 hts gL_secrets_L_find rfl rfl rfl (by decide +kernel) ⟨Nat.le_of_ble_eq_true rfl, Nat.le_of_ble_eq_true rfl⟩) ⟨b_blind, fun U9 hU9 hW9 => ⟨rfl, hs_pre E Z9 w hm9 U9 hU9 hW9⟩⟩ rfl rfl hl.1 rfl (lv_room (Nat.le_of_ble_eq_true rfl)) dL_secrets_551 ⟨Nat.le_of_ble_eq_true rfl, Nat.le_of_ble_eq_true rfl⟩) hm9 (fun r i H locs hr w => ?_)
  obtain ⟨hI, hr9⟩ := hr
  refine b_tp hr9 ?_
  refine lv_iconst (v := -1) hx hb dL_secrets_554 (by decide) ?_
  refine lv_icmp_ne (tgt := 605) hx hb dL_secrets_555 (by decide) (fun c9 => absurd rfl c9) (fun c9 => ?_)
  refine lv_aload_n hx hb dL_secrets_558 rfl (lv_at hl 0 rfl) ?_
  refine lv_iconst (v := nI 0) hx hb dL_secrets_559 (by decide) ?_
  refine lv_iconst (v := nI 0) hx hb dL_secrets_560 (by decide) ?_
  refine lv_iconst (v := nI 0) hx hb dL_secrets_561 (by decide) ?_
  refine lv_bipush (v := nI 11) hx hb dL_secrets_562 (by decide) ?_
  refine lv_iconst (v := nI 0) hx hb dL_secrets_564 (by decide) ?_
  refine lv_iconst (v := nI 5) hx hb dL_secrets_565 (by decide) ?_
  refine hs_calli w (vx_runSW (As := [.ref (a 0), .int (nI 0), .int (nI 0), .int (nI 0), .int (nI 11), .int (nI 0), .int (nI 5)]) (rest := []) X (fS l hl0 G _ a _ _ hI _ _ _ _ _ _  _ esq_43) (vx_cwSW 7 hts gL_secrets_L_find rfl rfl rfl (by decide +kernel) ⟨Nat.le_of_ble_eq_true rfl, Nat.le_of_ble_eq_true rfl⟩) ⟨b_blind, fun U9 hU9 hW9 => ⟨rfl, hs_pre E Z9 w hm9 U9 hU9 hW9⟩⟩ rfl rfl hl.1 rfl (lv_room (Nat.le_of_ble_eq_true rfl)) dL_secrets_566 ⟨Nat.le_of_ble_eq_true rfl, Nat.le_of_ble_eq_true rfl⟩) hm9 (fun r i H locs hr w => ?_)
  obtain ⟨hI, hr9⟩ := hr
  refine b_tp hr9 ?_
  refine lv_sipush (v := nI 5062) hx hb dL_secrets_569 (by decide) ?_
  refine lv_icmp_ne (tgt := 605) hx hb dL_secrets_572 (by decide) (fun c9 => absurd rfl c9) (fun c9 => ?_)
  refine lv_aload_n hx hb dL_secrets_575 rfl (lv_at hl 0 rfl) ?_
  refine lv_iconst (v := -1) hx hb dL_secrets_576 (by decide) ?_
  refine lv_iconst (v := -1) hx hb dL_secrets_577 (by decide) ?_
  refine lv_bipush (v := nI 6) hx hb dL_secrets_578 (by decide) ?_
  refine lv_bipush (v := nI 11) hx hb dL_secrets_580 (by decide) ?_
  refine lv_iconst (v := nI 0) hx hb dL_secrets_582 (by decide) ?_
  refine lv_iconst (v := nI 0) hx hb dL_secrets_583 (by decide) ?_
  refine hs_calli w (vx_runSW (As := [.ref (a 0), .int (-1), .int (-1), .int (nI 6), .int (nI 11), .int (nI 0), .int (nI 0)]) (rest := []) X (fS l hl0 G _ a _ _ hI _ _ _ _ _ _  _ esq_44) (vx_cwSW 7 hts gL_secrets_L_find rfl rfl rfl (by decide +kernel) ⟨Nat.le_of_ble_eq_true rfl, Nat.le_of_ble_eq_true rfl⟩) ⟨b_blind, fun U9 hU9 hW9 => ⟨rfl, hs_pre E Z9 w hm9 U9 hU9 hW9⟩⟩ rfl rfl hl.1 rfl (lv_room (Nat.le_of_ble_eq_true rfl)) dL_secrets_584 ⟨Nat.le_of_ble_eq_true rfl, Nat.le_of_ble_eq_true rfl⟩) hm9 (fun r i H locs hr w => ?_)
  obtain ⟨hI, hr9⟩ := hr
  refine b_tp hr9 ?_
  refine lv_iconst (v := -1) hx hb dL_secrets_587 (by decide) ?_
  refine lv_icmp_ne (tgt := 605) hx hb dL_secrets_588 (by decide) (fun c9 => absurd rfl c9) (fun c9 => ?_)
  refine lv_aload_n hx hb dL_secrets_591 rfl (lv_at hl 0 rfl) ?_
  refine lv_iconst (v := -1) hx hb dL_secrets_592 (by decide) ?_
  refine lv_iconst (v := -1) hx hb dL_secrets_593 (by decide) ?_
  refine lv_iconst (v := nI 0) hx hb dL_secrets_594 (by decide) ?_
  refine lv_iconst (v := nI 4) hx hb dL_secrets_595 (by decide) ?_
  refine lv_iconst (v := nI 0) hx hb dL_secrets_596 (by decide) ?_
  refine lv_iconst (v := nI 0) hx hb dL_secrets_597 (by decide) ?_
  refine hs_calli w (vx_runSW (As := [.ref (a 0), .int (-1), .int (-1), .int (nI 0), .int (nI 4), .int (nI 0), .int (nI 0)]) (rest := []) X (fS l hl0 G _ a _ _ hI _ _ _ _ _ _  _ esq_45) (vx_cwSW 7 hts gL_secrets_L_find rfl rfl rfl (by decide +kernel) ⟨Nat.le_of_ble_eq_true rfl, Nat.le_of_ble_eq_true rfl⟩) ⟨b_blind, fun U9 hU9 hW9 => ⟨rfl, hs_pre E Z9 w hm9 U9 hU9 hW9⟩⟩ rfl rfl hl.1 rfl (lv_room (Nat.le_of_ble_eq_true rfl)) dL_secrets_598 ⟨Nat.le_of_ble_eq_true rfl, Nat.le_of_ble_eq_true rfl⟩) hm9 (fun r i H locs hr w => ?_)
  obtain ⟨hI, hr9⟩ := hr
  refine b_tp hr9 ?_
  refine lv_iconst (v := -1) hx hb dL_secrets_601 (by decide) ?_
  refine lv_icmp_eq (tgt := 607) hx hb dL_secrets_602 (by decide) (fun c9 => ?_) (fun c9 => absurd rfl c9)
  refine lv_aload_n hx hb dL_secrets_607 rfl (lv_at hl 0 rfl) ?_
  refine lv_iconst (v := nI 0) hx hb dL_secrets_608 (by decide) ?_
  refine lv_iconst (v := nI 3) hx hb dL_secrets_609 (by decide) ?_
  refine lv_iconst (v := nI 1) hx hb dL_secrets_610 (by decide) ?_
  refine lv_iconst (v := nI 5) hx hb dL_secrets_611 (by decide) ?_
  refine lv_bipush (v := nI 7) hx hb dL_secrets_612 (by decide) ?_
  refine hs_calli w (va_runV (As := [.int (nI 0), .int (nI 3), .int (nI 1), .int (nI 5), .int (nI 7)]) (rest := []) X (n_put l hl0 G _ a _ _ _ _ hI _ _ _ _ _ esq_46) (cwV 5 hts gL_secrets_X5_put rfl rfl rfl (by decide +kernel) ⟨Nat.le_of_ble_eq_true rfl, Nat.le_of_ble_eq_true rfl⟩) ⟨b_blind, hs_recv E w, fun U9 hU9 hW9 => ⟨rfl, hs_pre E Z9 w hm9 U9 hU9 hW9⟩⟩ rfl rfl hl.1 rfl (lv_room (Nat.le_of_ble_eq_true rfl)) dL_secrets_614 ⟨Nat.le_of_ble_eq_true rfl, Nat.le_of_ble_eq_true rfl⟩) hm9 (fun r i H locs hr w => ?_)
  obtain ⟨hI, hr9⟩ := hr
  refine b_tp hr9 ?_
  refine lv_iconst (v := nI 1) hx hb dL_secrets_617 (by decide) ?_
  refine lv_icmp_ne (tgt := 785) hx hb dL_secrets_618 (by decide) (fun c9 => absurd rfl c9) (fun c9 => ?_)
  refine lv_aload_n hx hb dL_secrets_621 rfl (lv_at hl 0 rfl) ?_
  refine lv_iconst (v := nI 1) hx hb dL_secrets_622 (by decide) ?_
  refine hs_calli w (va_runV (As := [.int (nI 1)]) (rest := []) X (n_send l hl0 G _ a _ _ _ _ hI _ esq_47) (cwV 1 hts gL_secrets_X5_send rfl rfl rfl (by decide +kernel) ⟨Nat.le_of_ble_eq_true rfl, Nat.le_of_ble_eq_true rfl⟩) ⟨b_blind, hs_recv E w, fun U9 hU9 hW9 => ⟨rfl, hs_pre E Z9 w hm9 U9 hU9 hW9⟩⟩ rfl rfl hl.1 rfl (lv_room (Nat.le_of_ble_eq_true rfl)) dL_secrets_623 ⟨Nat.le_of_ble_eq_true rfl, Nat.le_of_ble_eq_true rfl⟩) hm9 (fun r i H locs hr w => ?_)
  obtain ⟨hI, hr9⟩ := hr
  refine b_tp hr9 ?_
  refine lv_iconst (v := nI 1) hx hb dL_secrets_626 (by decide) ?_
  refine lv_icmp_ne (tgt := 785) hx hb dL_secrets_627 (by decide) (fun c9 => absurd rfl c9) (fun c9 => ?_)
  refine lv_aload_n hx hb dL_secrets_630 rfl (lv_at hl 0 rfl) ?_
  refine lv_iconst (v := nI 5) hx hb dL_secrets_631 (by decide) ?_
  refine hs_calli w (va_runV (As := [.int (nI 5)]) (rest := []) X (n_hidden l hl0 G _ a _ _ _ _ hI _ esq_48) (cwV 1 hts gL_secrets_X5_hidden rfl rfl rfl (by decide +kernel) ⟨Nat.le_of_ble_eq_true rfl, Nat.le_of_ble_eq_true rfl⟩) ⟨b_blind, hs_recv E w, fun U9 hU9 hW9 => ⟨rfl, hs_pre E Z9 w hm9 U9 hU9 hW9⟩⟩ rfl rfl hl.1 rfl (lv_room (Nat.le_of_ble_eq_true rfl)) dL_secrets_632 ⟨Nat.le_of_ble_eq_true rfl, Nat.le_of_ble_eq_true rfl⟩) hm9 (fun r i H locs hr w => ?_)
  obtain ⟨hI, hr9, -⟩ := hr
  refine b_tp hr9 ?_
  refine lv_bipush (v := nI 6) hx hb dL_secrets_635 (by decide) ?_
  refine lv_icmp_ne (tgt := 785) hx hb dL_secrets_637 (by decide) (fun c9 => absurd rfl c9) (fun c9 => ?_)
  refine lv_aload_n hx hb dL_secrets_640 rfl (lv_at hl 0 rfl) ?_
  refine lv_iconst (v := nI 3) hx hb dL_secrets_641 (by decide) ?_
  refine lv_iconst (v := nI 1) hx hb dL_secrets_642 (by decide) ?_
  refine lv_iconst (v := nI 5) hx hb dL_secrets_643 (by decide) ?_
  refine hs_calli w (va_runV (As := [.int (nI 3), .int (nI 1), .int (nI 5)]) (rest := []) X (n_shown l hl0 G _ a _ _ _ _ hI _ _ _ esq_49) (cwV 3 hts gL_secrets_X5_shown rfl rfl rfl (by decide +kernel) ⟨Nat.le_of_ble_eq_true rfl, Nat.le_of_ble_eq_true rfl⟩) ⟨b_blind, hs_recv E w, fun U9 hU9 hW9 => ⟨rfl, hs_pre E Z9 w hm9 U9 hU9 hW9⟩⟩ rfl rfl hl.1 rfl (lv_room (Nat.le_of_ble_eq_true rfl)) dL_secrets_644 ⟨Nat.le_of_ble_eq_true rfl, Nat.le_of_ble_eq_true rfl⟩) hm9 (fun r i H locs hr w => ?_)
  obtain ⟨hI, hr9, -⟩ := hr
  refine b_tp hr9 ?_
  refine lv_ldc (v := HID) hx hb hown (hts (.constant RL 108 (-2000000002)) (by decide +kernel)) dL_secrets_647 ?_
  refine lv_icmp_ne (tgt := 785) hx hb dL_secrets_649 (by decide) (fun c9 => absurd rfl c9) (fun c9 => ?_)
  refine lv_aload_n hx hb dL_secrets_652 rfl (lv_at hl 0 rfl) ?_
  refine lv_iconst (v := nI 2) hx hb dL_secrets_653 (by decide) ?_
  refine lv_iconst (v := nI 1) hx hb dL_secrets_654 (by decide) ?_
  refine lv_iconst (v := nI 5) hx hb dL_secrets_655 (by decide) ?_
  refine hs_calli w (va_runV (As := [.int (nI 2), .int (nI 1), .int (nI 5)]) (rest := []) X (n_shown l hl0 G _ a _ _ _ _ hI _ _ _ esq_50) (cwV 3 hts gL_secrets_X5_shown rfl rfl rfl (by decide +kernel) ⟨Nat.le_of_ble_eq_true rfl, Nat.le_of_ble_eq_true rfl⟩) ⟨b_blind, hs_recv E w, fun U9 hU9 hW9 => ⟨rfl, hs_pre E Z9 w hm9 U9 hU9 hW9⟩⟩ rfl rfl hl.1 rfl (lv_room (Nat.le_of_ble_eq_true rfl)) dL_secrets_656 ⟨Nat.le_of_ble_eq_true rfl, Nat.le_of_ble_eq_true rfl⟩) hm9 (fun r i H locs hr w => ?_)
  obtain ⟨hI, hr9, -⟩ := hr
  refine b_tp hr9 ?_
  refine lv_ldc (v := HID) hx hb hown (hts (.constant RL 108 (-2000000002)) (by decide +kernel)) dL_secrets_659 ?_
  refine lv_icmp_ne (tgt := 785) hx hb dL_secrets_661 (by decide) (fun c9 => absurd rfl c9) (fun c9 => ?_)
  refine lv_aload_n hx hb dL_secrets_664 rfl (lv_at hl 0 rfl) ?_
  refine lv_iconst (v := nI 1) hx hb dL_secrets_665 (by decide) ?_
  refine lv_iconst (v := nI 1) hx hb dL_secrets_666 (by decide) ?_
  refine lv_iconst (v := nI 5) hx hb dL_secrets_667 (by decide) ?_
  refine hs_calli w (va_runV (As := [.int (nI 1), .int (nI 1), .int (nI 5)]) (rest := []) X (n_shown l hl0 G _ a _ _ _ _ hI _ _ _ esq_51) (cwV 3 hts gL_secrets_X5_shown rfl rfl rfl (by decide +kernel) ⟨Nat.le_of_ble_eq_true rfl, Nat.le_of_ble_eq_true rfl⟩) ⟨b_blind, hs_recv E w, fun U9 hU9 hW9 => ⟨rfl, hs_pre E Z9 w hm9 U9 hU9 hW9⟩⟩ rfl rfl hl.1 rfl (lv_room (Nat.le_of_ble_eq_true rfl)) dL_secrets_668 ⟨Nat.le_of_ble_eq_true rfl, Nat.le_of_ble_eq_true rfl⟩) hm9 (fun r i H locs hr w => ?_)
  obtain ⟨hI, hr9, -⟩ := hr
  refine b_tp hr9 ?_
  refine lv_ldc (v := HID) hx hb hown (hts (.constant RL 108 (-2000000002)) (by decide +kernel)) dL_secrets_671 ?_
  refine lv_icmp_ne (tgt := 785) hx hb dL_secrets_673 (by decide) (fun c9 => absurd rfl c9) (fun c9 => ?_)
  refine lv_aload_n hx hb dL_secrets_676 rfl (lv_at hl 0 rfl) ?_
  refine lv_iconst (v := nI 1) hx hb dL_secrets_677 (by decide) ?_
  refine lv_iconst (v := nI 2) hx hb dL_secrets_678 (by decide) ?_
  refine lv_iconst (v := nI 5) hx hb dL_secrets_679 (by decide) ?_
  refine hs_calli w (va_runV (As := [.int (nI 1), .int (nI 2), .int (nI 5)]) (rest := []) X (n_shown l hl0 G _ a _ _ _ _ hI _ _ _ esq_52) (cwV 3 hts gL_secrets_X5_shown rfl rfl rfl (by decide +kernel) ⟨Nat.le_of_ble_eq_true rfl, Nat.le_of_ble_eq_true rfl⟩) ⟨b_blind, hs_recv E w, fun U9 hU9 hW9 => ⟨rfl, hs_pre E Z9 w hm9 U9 hU9 hW9⟩⟩ rfl rfl hl.1 rfl (lv_room (Nat.le_of_ble_eq_true rfl)) dL_secrets_680 ⟨Nat.le_of_ble_eq_true rfl, Nat.le_of_ble_eq_true rfl⟩) hm9 (fun r i H locs hr w => ?_)
  obtain ⟨hI, hr9, -⟩ := hr
  refine b_tp hr9 ?_
  refine lv_ldc (v := HID) hx hb hown (hts (.constant RL 108 (-2000000002)) (by decide +kernel)) dL_secrets_683 ?_
  refine lv_icmp_ne (tgt := 785) hx hb dL_secrets_685 (by decide) (fun c9 => absurd rfl c9) (fun c9 => ?_)
  refine lv_aload_n hx hb dL_secrets_688 rfl (lv_at hl 0 rfl) ?_
  refine lv_iconst (v := nI 3) hx hb dL_secrets_689 (by decide) ?_
  refine lv_iconst (v := nI 2) hx hb dL_secrets_690 (by decide) ?_
  refine lv_iconst (v := nI 5) hx hb dL_secrets_691 (by decide) ?_
  refine hs_calli w (va_runV (As := [.int (nI 3), .int (nI 2), .int (nI 5)]) (rest := []) X (n_shown l hl0 G _ a _ _ _ _ hI _ _ _ esq_53) (cwV 3 hts gL_secrets_X5_shown rfl rfl rfl (by decide +kernel) ⟨Nat.le_of_ble_eq_true rfl, Nat.le_of_ble_eq_true rfl⟩) ⟨b_blind, hs_recv E w, fun U9 hU9 hW9 => ⟨rfl, hs_pre E Z9 w hm9 U9 hU9 hW9⟩⟩ rfl rfl hl.1 rfl (lv_room (Nat.le_of_ble_eq_true rfl)) dL_secrets_692 ⟨Nat.le_of_ble_eq_true rfl, Nat.le_of_ble_eq_true rfl⟩) hm9 (fun r i H locs hr w => ?_)
  obtain ⟨hI, hr9, -⟩ := hr
  refine b_tp hr9 ?_
  refine lv_ldc (v := HID) hx hb hown (hts (.constant RL 108 (-2000000002)) (by decide +kernel)) dL_secrets_695 ?_
  refine lv_icmp_ne (tgt := 785) hx hb dL_secrets_697 (by decide) (fun c9 => absurd rfl c9) (fun c9 => ?_)
  refine lv_aload_n hx hb dL_secrets_700 rfl (lv_at hl 0 rfl) ?_
  refine lv_iconst (v := nI 2) hx hb dL_secrets_701 (by decide) ?_
  refine lv_iconst (v := nI 0) hx hb dL_secrets_702 (by decide) ?_
  refine lv_iconst (v := nI 5) hx hb dL_secrets_703 (by decide) ?_
  refine hs_calli w (va_runV (As := [.int (nI 2), .int (nI 0), .int (nI 5)]) (rest := []) X (n_shown l hl0 G _ a _ _ _ _ hI _ _ _ esq_54) (cwV 3 hts gL_secrets_X5_shown rfl rfl rfl (by decide +kernel) ⟨Nat.le_of_ble_eq_true rfl, Nat.le_of_ble_eq_true rfl⟩) ⟨b_blind, hs_recv E w, fun U9 hU9 hW9 => ⟨rfl, hs_pre E Z9 w hm9 U9 hU9 hW9⟩⟩ rfl rfl hl.1 rfl (lv_room (Nat.le_of_ble_eq_true rfl)) dL_secrets_704 ⟨Nat.le_of_ble_eq_true rfl, Nat.le_of_ble_eq_true rfl⟩) hm9 (fun r i H locs hr w => ?_)
  obtain ⟨hI, hr9, -⟩ := hr
  refine b_tp hr9 ?_
  refine lv_iconst (v := nI 4) hx hb dL_secrets_707 (by decide) ?_
  refine lv_icmp_ne (tgt := 785) hx hb dL_secrets_708 (by decide) (fun c9 => absurd rfl c9) (fun c9 => ?_)
  exact kk i _ _ _ hI w (lv_sub hl [0] rfl)
set_option maxHeartbeats 4000000 in
set_option maxRecDepth 100000 in
theorem c_secrets (l : Launch) (hl0 : l.stackTraces = false) (G : bG) (sz : Nat) (a : Nat → Nat) (i : hs_I) (hi : hs_Inv eh_31 i)  : Met l yL_secrets wsL_secrets ({ frames := 10, cells := 427, slots := 2562, locals := 237 }) (va_Pc [.ref (a 0)] (bPre G vwCl bNW bSW sz (hs_W G a eh_31 i) (hs_M a))) (va_Qi (fun (r : Int32) (j : hs_I) => hs_Inv es_12 j ∧ r = nI 1) (fun (j : hs_I) (tS : State) => va_P G.1 vwCl (hs_W G a es_12 j) tS.heap) (Aw (hs_M a) sz)) 427 2562 (Aw (hs_M a) sz) := by
  refine Met.ofW (cc := cL_secrets) (maxL := 1) (ret := (some .boolean)) (by decide) rfl ?_
  intro p e s m args below meth c s₁ B hml hv
  obtain ⟨rfl, hsz, hP, hD, E, Z⟩ := hv
  have hts := atoms_spec (ws := wsL_secrets) B.pre
  have hown : s.vm.findClass RL = some m.cls := findClass_of_methodNamed B.named
  have X : CallFix p m c cL_secrets 1 s _ wsL_secrets RL := ⟨B.exec, B.bytes, hml, hown, hts⟩
  have hx := B.exec
  have hb := B.bytes
  have hr0 := B.returns
  have hlocks := B.notSynchronized
  have hts2 : ∀ w, w ∈ wsL_secrets → w ∈ wsL_secrets := fun _ h9 => h9
  subst hsz
  have w : bSt G vwCl [] s (hs_W G a eh_31 i) s.heap [] := ⟨hP, va_S.rf, hD⟩
  have w := b_wide (hs_M a) b_nil w
  have hm9 : ∀ q ∈ hs_M a, Aw (hs_M a) s.heap.size q := fun q h => Or.inl h
  have Z9 : bZ (hs_M a) s := Z
  have hI := hi
  have hl := lv_entry ([.ref (a 0)]) (n := 1) (Nat.le_of_ble_eq_true rfl)
  rw [lg_entry_eq]
  generalize (lg_sl ([.ref (a 0)]) ++ List.replicate (1 - (lg_sl ([.ref (a 0)])).length) Slot.unset).toArray = ls at hl ⊢
  have hl : lv_has ls 1 [(0, .ref (a 0))] := hl
  refine sg_secrets_0 hl0 X E Z9 hm9 hI w hl (fun i H locs ls hI w hl => ?_)
  refine sg_secrets_1 hl0 X E Z9 hm9 hI w hl (fun i H locs ls hI w hl => ?_)
  refine sg_secrets_2 hl0 X E Z9 hm9 hI w hl (fun i H locs ls hI w hl => ?_)
  refine lv_aload_n hx hb dL_secrets_711 rfl (lv_at hl 0 rfl) ?_
  refine lv_iconst (v := nI 3) hx hb dL_secrets_712 (by decide) ?_
  refine lv_iconst (v := nI 0) hx hb dL_secrets_713 (by decide) ?_
  refine lv_iconst (v := nI 5) hx hb dL_secrets_714 (by decide) ?_
  refine hs_calli w (va_runV (As := [.int (nI 3), .int (nI 0), .int (nI 5)]) (rest := []) X (n_shown l hl0 G _ a _ _ _ _ hI _ _ _ esq_55) (cwV 3 hts gL_secrets_X5_shown rfl rfl rfl (by decide +kernel) ⟨Nat.le_of_ble_eq_true rfl, Nat.le_of_ble_eq_true rfl⟩) ⟨b_blind, hs_recv E w, fun U9 hU9 hW9 => ⟨rfl, hs_pre E Z9 w hm9 U9 hU9 hW9⟩⟩ rfl rfl hl.1 rfl (lv_room (Nat.le_of_ble_eq_true rfl)) dL_secrets_715 ⟨Nat.le_of_ble_eq_true rfl, Nat.le_of_ble_eq_true rfl⟩) hm9 (fun r i H locs hr w => ?_)
  obtain ⟨hI, hr9, -⟩ := hr
  refine b_tp hr9 ?_
  refine lv_iconst (v := nI 4) hx hb dL_secrets_718 (by decide) ?_
  refine lv_icmp_ne (tgt := 785) hx hb dL_secrets_719 (by decide) (fun c9 => absurd rfl c9) (fun c9 => ?_)
  refine lv_aload_n hx hb dL_secrets_722 rfl (lv_at hl 0 rfl) ?_
  refine lv_iconst (v := nI 0) hx hb dL_secrets_723 (by decide) ?_
  refine lv_iconst (v := nI 0) hx hb dL_secrets_724 (by decide) ?_
  refine lv_iconst (v := nI 0) hx hb dL_secrets_725 (by decide) ?_
  refine b_tp (show nI 0 = bI false from rfl) ?_
  refine hs_calli w (va_runV (As := [.int (nI 0), .int (nI 0), .int (bI false)]) (rest := []) X (n_agree l hl0 G _ a _ _ _ _ hI _ _ _ esq_56) (cwV 3 hts gL_secrets_X5_agree rfl rfl rfl (by decide +kernel) ⟨Nat.le_of_ble_eq_true rfl, Nat.le_of_ble_eq_true rfl⟩) ⟨b_blind, hs_recv E w, fun U9 hU9 hW9 => ⟨rfl, hs_pre E Z9 w hm9 U9 hU9 hW9⟩⟩ rfl rfl hl.1 rfl (lv_room (Nat.le_of_ble_eq_true rfl)) dL_secrets_726 ⟨Nat.le_of_ble_eq_true rfl, Nat.le_of_ble_eq_true rfl⟩) hm9 (fun r i H locs hr w => ?_)
  obtain ⟨hI, hr9⟩ := hr
  refine b_tp hr9 ?_
  refine lv_if_eq (tgt := 785) hx hb dL_secrets_729 (by decide) (fun c9 => absurd c9 (by decide)) (fun c9 => ?_)
  refine lv_aload_n hx hb dL_secrets_732 rfl (lv_at hl 0 rfl) ?_
  refine lv_iconst (v := nI 0) hx hb dL_secrets_733 (by decide) ?_
  refine lv_iconst (v := nI 1) hx hb dL_secrets_734 (by decide) ?_
  refine hs_calli w (va_runV (As := [.int (nI 0), .int (nI 1)]) (rest := []) X (n_mayTell l hl0 G _ a _ _ _ _ hI _ _ esq_57) (cwV 2 hts gL_secrets_X5_mayTell rfl rfl rfl (by decide +kernel) ⟨Nat.le_of_ble_eq_true rfl, Nat.le_of_ble_eq_true rfl⟩) ⟨b_blind, hs_recv E w, fun U9 hU9 hW9 => ⟨rfl, hs_pre E Z9 w hm9 U9 hU9 hW9⟩⟩ rfl rfl hl.1 rfl (lv_room (Nat.le_of_ble_eq_true rfl)) dL_secrets_735 ⟨Nat.le_of_ble_eq_true rfl, Nat.le_of_ble_eq_true rfl⟩) hm9 (fun r i H locs hr w => ?_)
  obtain ⟨hI, hr9⟩ := hr
  refine b_tp hr9 ?_
  refine lv_if_ne (tgt := 785) hx hb dL_secrets_738 (by decide) (fun c9 => absurd (by decide) c9) (fun c9 => ?_)
  refine lv_aload_n hx hb dL_secrets_741 rfl (lv_at hl 0 rfl) ?_
  refine lv_iconst (v := nI 2) hx hb dL_secrets_742 (by decide) ?_
  refine lv_iconst (v := nI 1) hx hb dL_secrets_743 (by decide) ?_
  refine lv_iconst (v := nI 1) hx hb dL_secrets_744 (by decide) ?_
  refine lv_iconst (v := nI 5) hx hb dL_secrets_745 (by decide) ?_
  refine lv_iconst (v := nI 0) hx hb dL_secrets_746 (by decide) ?_
  refine hs_calli w (va_runV (As := [.int (nI 2), .int (nI 1), .int (nI 1), .int (nI 5), .int (nI 0)]) (rest := []) X (n_put l hl0 G _ a _ _ _ _ hI _ _ _ _ _ esq_58) (cwV 5 hts gL_secrets_X5_put rfl rfl rfl (by decide +kernel) ⟨Nat.le_of_ble_eq_true rfl, Nat.le_of_ble_eq_true rfl⟩) ⟨b_blind, hs_recv E w, fun U9 hU9 hW9 => ⟨rfl, hs_pre E Z9 w hm9 U9 hU9 hW9⟩⟩ rfl rfl hl.1 rfl (lv_room (Nat.le_of_ble_eq_true rfl)) dL_secrets_747 ⟨Nat.le_of_ble_eq_true rfl, Nat.le_of_ble_eq_true rfl⟩) hm9 (fun r i H locs hr w => ?_)
  obtain ⟨hI, hr9⟩ := hr
  refine b_tp hr9 ?_
  refine lv_iconst (v := nI 1) hx hb dL_secrets_750 (by decide) ?_
  refine lv_icmp_ne (tgt := 785) hx hb dL_secrets_751 (by decide) (fun c9 => absurd rfl c9) (fun c9 => ?_)
  refine lv_aload_n hx hb dL_secrets_754 rfl (lv_at hl 0 rfl) ?_
  refine lv_iconst (v := nI 0) hx hb dL_secrets_755 (by decide) ?_
  refine hs_calli w (va_runV (As := [.int (nI 0)]) (rest := []) X (n_send l hl0 G _ a _ _ _ _ hI _ esq_59) (cwV 1 hts gL_secrets_X5_send rfl rfl rfl (by decide +kernel) ⟨Nat.le_of_ble_eq_true rfl, Nat.le_of_ble_eq_true rfl⟩) ⟨b_blind, hs_recv E w, fun U9 hU9 hW9 => ⟨rfl, hs_pre E Z9 w hm9 U9 hU9 hW9⟩⟩ rfl rfl hl.1 rfl (lv_room (Nat.le_of_ble_eq_true rfl)) dL_secrets_756 ⟨Nat.le_of_ble_eq_true rfl, Nat.le_of_ble_eq_true rfl⟩) hm9 (fun r i H locs hr w => ?_)
  obtain ⟨hI, hr9⟩ := hr
  refine b_tp hr9 ?_
  refine lv_if_ne (tgt := 785) hx hb dL_secrets_759 (by decide) (fun c9 => absurd rfl c9) (fun c9 => ?_)
  refine lv_aload_n hx hb dL_secrets_762 rfl (lv_at hl 0 rfl) ?_
  refine lv_iconst (v := nI 0) hx hb dL_secrets_763 (by decide) ?_
  refine hs_calli w (va_runV (As := [.int (nI 0)]) (rest := []) X (n_refusal l hl0 G _ a _ _ _ _ hI _ esq_60) (cwV 1 hts gL_secrets_X5_refusal rfl rfl rfl (by decide +kernel) ⟨Nat.le_of_ble_eq_true rfl, Nat.le_of_ble_eq_true rfl⟩) ⟨b_blind, hs_recv E w, fun U9 hU9 hW9 => ⟨rfl, hs_pre E Z9 w hm9 U9 hU9 hW9⟩⟩ rfl rfl hl.1 rfl (lv_room (Nat.le_of_ble_eq_true rfl)) dL_secrets_764 ⟨Nat.le_of_ble_eq_true rfl, Nat.le_of_ble_eq_true rfl⟩) hm9 (fun r i H locs hr w => ?_)
  obtain ⟨hI, hr9⟩ := hr
  refine b_tp hr9 ?_
  refine lv_iconst (v := nI 1) hx hb dL_secrets_767 (by decide) ?_
  refine lv_icmp_ne (tgt := 785) hx hb dL_secrets_768 (by decide) (fun c9 => absurd rfl c9) (fun c9 => ?_)
  refine lv_aload_n hx hb dL_secrets_771 rfl (lv_at hl 0 rfl) ?_
  refine lv_iconst (v := nI 4) hx hb dL_secrets_772 (by decide) ?_
  refine lv_iconst (v := nI 3) hx hb dL_secrets_773 (by decide) ?_
  refine lv_iconst (v := nI 2) hx hb dL_secrets_774 (by decide) ?_
  refine hs_calli w (va_runS (As := [.ref (a 0), .int (nI 4), .int (nI 3), .int (nI 2)]) (rest := []) X (c_refuses l hl0 G _ a _ _ hI 4 3 2 esq_61) (va_cwS 4 hts gL_secrets_L_refuses rfl rfl rfl (by decide +kernel) ⟨Nat.le_of_ble_eq_true rfl, Nat.le_of_ble_eq_true rfl⟩) ⟨b_blind, fun U9 hU9 hW9 => ⟨rfl, hs_pre E Z9 w hm9 U9 hU9 hW9⟩⟩ rfl rfl hl.1 rfl (lv_room (Nat.le_of_ble_eq_true rfl)) dL_secrets_775 ⟨Nat.le_of_ble_eq_true rfl, Nat.le_of_ble_eq_true rfl⟩) hm9 (fun r i H locs hr w => ?_)
  obtain ⟨hI, hr9⟩ := hr
  refine b_tp hr9 ?_
  refine lv_if_eq (tgt := 785) hx hb dL_secrets_778 (by decide) (fun c9 => absurd c9 (by decide)) (fun c9 => ?_)
  refine lv_iconst (v := nI 1) hx hb dL_secrets_781 (by decide) ?_
  refine lv_goto (tgt := 786) hx hb dL_secrets_782 (by decide) ?_
  exact W.zret (v := nI 1) hx hb hr0 rfl (fun t9 ht9 hW9 => ⟨⟨nI 1, i, rfl, ⟨hI, rfl⟩, (by show va_P G.1 vwCl (hs_W G a es_12 i) t9.heap; rw [ht9]; exact w.1)⟩, w.2.1.F ht9⟩) w.2.1.2.2 dL_secrets_786
