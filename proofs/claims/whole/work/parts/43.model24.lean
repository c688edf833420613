/-! ===== a rule comes ===== -/
set_option maxRecDepth 20000 in
theorem come_loop {h : mH} {Q : Option Value → mH → Prop} {B : Nat → Nat → Prop} {n k p : Nat} {K O T : Nat → Nat} {x2 x3 x4 x5 : Int32} (hs : mS h) (q : rul h B n K O T) (hn : n < 12000) (hk : k < 1099511627776) (K1 : ∀ d, (∀ e, e < d → T ((kH k + e) % 32768) ≠ 0 ∧ K (T ((kH k + e) % 32768) - 1) ≠ k) → T ((kH k + d) % 32768) = 0 → Wp mX12_comesRule 2 45 70 [some (.ref 153), some (.int (nI p)), some (.int x2), some (.int x3), some (.int x4), some (.int x5), some (.long (lN k)), none, some (.int (nI ((kH k + d) % 32768)))] [] h Q) (K2 : ∀ s j, s < 32768 → T s = j + 1 → j < n → K j = k → Wp mX12_comesRule 2 45 70 [some (.ref 153), some (.int (nI p)), some (.int x2), some (.int x3), some (.int x4), some (.int x5), some (.long (lN k)), none, some (.int (nI s))] [] h Q) : Wp mX12_comesRule 2 45 27 [some (.ref 153), some (.int (nI p)), some (.int x2), some (.int x3), some (.int x4), some (.int x5), some (.long (lN k)), none, some (.int (nI (kH k)))] [] h Q := by
  obtain ⟨d0, hd0, e0⟩ := hsh_free q.2.2.2.2.1 (by omega) (kH k)
  have hloop : ∀  (m : Nat) (d : Nat), (∀ e, e < d → T ((kH k + e) % 32768) ≠ 0 ∧ K (T ((kH k + e) % 32768) - 1) ≠ k) → (∀ e, e < d → e < d0) → (d0 < d + m) → Wp mX12_comesRule 2 45 27 [some (.ref 153), some (.int (nI p)), some (.int x2), some (.int x3), some (.int x4), some (.int x5), some (.long (lN k)), none, some (.int (nI ((kH k + d) % 32768)))] [] h Q := by
    intro m
    induction m with
    | zero => intros; rename_i hz9 hz8; exact absurd (hz9 d0 (by omega)) (by omega)
    | succ m ih =>
      intro d hw hd0 hmz
      have hdd : d ≤ d0 := by
        rcases Nat.lt_or_ge d0 d with z | z
        · exact absurd (hd0 d0 z) (by omega)
        · exact z
      refine wp_aload_n dX12_comesRule_27 rfl rfl ?_
      refine wp_getR dX12_comesRule_28 lX12_83 rfl (mO hs) (mR_found hs) ?_
      refine wp_iload dX12_comesRule_31 rfl ?_
      refine wp_ialdV dX12_comesRule_33 (mA_found hs) rfl ⟨Nat.mod_lt _ (by decide), by decide⟩ (q.2.2.2.1 ((kH k + d) % 32768) (Nat.mod_lt _ (by decide))) ?_
      refine wp_if_eqN dX12_comesRule_34 rfl (by have := q.2.2.2.2.1.1 ((kH k + d) % 32768) (Nat.mod_lt _ (by decide)); omega) (fun c1 => ?_) (fun c1 => ?_)
      · first | exact K1 d hw (by assumption) | exact K2 _ _ (Nat.mod_lt _ (by decide)) (show T ((kH k + d) % 32768) = (T ((kH k + d) % 32768) - 1) + 1 by omega) (by have := q.2.2.2.2.1.1 ((kH k + d) % 32768) (Nat.mod_lt _ (by decide)); omega) ((pk_lEQ (by have := (q.2.1 (T ((kH k + d) % 32768) - 1) (by have := q.2.2.2.2.1.1 ((kH k + d) % 32768) (Nat.mod_lt _ (by decide)); omega)).2; omega) (by omega)).mp (by assumption))
      · refine wp_aload_n dX12_comesRule_37 rfl rfl ?_
        refine wp_getR dX12_comesRule_38 lX12_70 rfl (mO hs) (mR_key hs) ?_
        refine wp_aload_n dX12_comesRule_41 rfl rfl ?_
        refine wp_getR dX12_comesRule_42 lX12_83 rfl (mO hs) (mR_found hs) ?_
        refine wp_iload dX12_comesRule_45 rfl ?_
        refine wp_ialdV dX12_comesRule_47 (mA_found hs) rfl ⟨Nat.mod_lt _ (by decide), by decide⟩ (q.2.2.2.1 ((kH k + d) % 32768) (Nat.mod_lt _ (by decide))) ?_
        refine wp_iconst (v := (nI 1)) dX12_comesRule_48 (by decide +kernel) ?_
        refine wp_isub dX12_comesRule_49 ?_
        refine wp_laldV dX12_comesRule_50 (mA_key hs) (isN_sub rfl rfl (by omega)) ⟨by have := q.2.2.2.2.1.1 ((kH k + d) % 32768) (Nat.mod_lt _ (by decide)); omega, by decide⟩ (q.2.1 _ (by have := q.2.2.2.2.1.1 ((kH k + d) % 32768) (Nat.mod_lt _ (by decide)); omega)).1 ?_
        refine wp_lload dX12_comesRule_51 rfl ?_
        refine wp_lc_eq dX12_comesRule_53 dX12_comesRule_54 (fun c2 => ?_) (fun c2 => ?_)
        · first | exact K1 d hw (by assumption) | exact K2 _ _ (Nat.mod_lt _ (by decide)) (show T ((kH k + d) % 32768) = (T ((kH k + d) % 32768) - 1) + 1 by omega) (by have := q.2.2.2.2.1.1 ((kH k + d) % 32768) (Nat.mod_lt _ (by decide)); omega) ((pk_lEQ (by have := (q.2.1 (T ((kH k + d) % 32768) - 1) (by have := q.2.2.2.2.1.1 ((kH k + d) % 32768) (Nat.mod_lt _ (by decide)); omega)).2; omega) (by omega)).mp (by assumption))
        · refine wp_iload dX12_comesRule_57 rfl ?_
          refine wp_iconst (v := (nI 1)) dX12_comesRule_59 (by decide +kernel) ?_
          refine wp_iadd dX12_comesRule_60 ?_
          refine wp_sipush (v := (nI 32767)) dX12_comesRule_61 (by decide +kernel) ?_
          refine wp_iand dX12_comesRule_64 ?_
          refine wp_istore (ls1 := [_, _, _, _, _, _, _, _, some _]) dX12_comesRule_65 (by decide) rfl ?_
          refine wp_goto dX12_comesRule_67 ?_
          rw [nx_mod15 (Nat.mod_lt _ (by decide)), show ((kH k + d) % 32768 + 1) % 32768 = (kH k + (d + 1)) % 32768 by omega]
          refine ih (d + 1) ?_ ?_ (by omega)
          · intro e he
            by_cases z : e = d
            · subst z
              exact ⟨by omega, fun z1 => absurd (congrArg lN z1) (by assumption)⟩
            · exact hw e (by omega)
          · intro e he
            by_cases z : e = d
            · subst z
              exact Nat.lt_of_le_of_ne hdd (fun z1 => by subst z1; omega)
            · exact hd0 e (by omega)
  have := hloop (d0 + 1) 0 (fun e he => by omega) (fun e he => by omega) (by omega)
  rw [Nat.add_zero, Nat.mod_eq_of_lt (kH_e k).2] at this
  exact this
set_option maxRecDepth 20000 in
theorem come_new {h : mH} {Q : Option Value → mH → Prop} {B : Nat → Nat → Prop} {n k p d : Nat} {K O T : Nat → Nat} {x2 x3 x4 x5 : Int32} (hs : mS h) (q : rul h B n K O T) (hn : n < 12000) (hp : p < 6) (hk : k < 1099511627776) (hw : ∀ e, e < d → T ((kH k + e) % 32768) ≠ 0 ∧ K (T ((kH k + e) % 32768) - 1) ≠ k) (h0 : T ((kH k + d) % 32768) = 0) (hq : ∀ h' n', mFr (mP [41] [171, 172, 175]) h h' → n ≤ n' → n' ≤ n + 1 → rulX h' (addB B p k) n' → Q none h') : Wp mX12_comesRule 2 45 70 [some (.ref 153), some (.int (nI p)), some (.int x2), some (.int x3), some (.int x4), some (.int x5), some (.long (lN k)), none, some (.int (nI ((kH k + d) % 32768)))] [] h Q := by
  refine wp_aload_n dX12_comesRule_70 rfl rfl ?_
  refine wp_getR dX12_comesRule_71 lX12_83 rfl (mO hs) (mR_found hs) ?_
  refine wp_iload dX12_comesRule_74 rfl ?_
  refine wp_ialdV dX12_comesRule_76 (mA_found hs) rfl ⟨Nat.mod_lt _ (by decide), by decide⟩ ((q.2.2.2.1 ((kH k + d) % 32768) (Nat.mod_lt _ (by decide))).trans (congrArg nI h0)) ?_
  refine wp_if_ne dX12_comesRule_77 (fun q => absurd q (by decide +kernel)) (fun _ => ?_)
  refine wp_aload_n dX12_comesRule_80 rfl rfl ?_
  refine wp_getR dX12_comesRule_81 lX12_70 rfl (mO hs) (mR_key hs) ?_
  refine wp_aload_n dX12_comesRule_84 rfl rfl ?_
  refine wp_getIV dX12_comesRule_85 lX12_378 rfl (mO hs) q.1 ?_
  refine wp_lload dX12_comesRule_88 rfl ?_
  refine wp_lastN dX12_comesRule_90 (mA_key hs) rfl ⟨by omega, by decide⟩ ?_
  refine sealAL (rfl : hL h 171 = hL h 171) (fun hh1 f1 e1 => ?_)
  have S1 := f1.s hs
  have efI41_1 := (f1.fI 41 (by decide) (by decide)).trans q.1
  have eI172_1 := (f1.Ir (by decide) (by decide)).trans (rfl : hI h 172 = hI h 172)
  have eI175_1 := (f1.Ir (by decide) (by decide)).trans (rfl : hI h 175 = hI h 175)
  refine wp_aload_n dX12_comesRule_91 rfl rfl ?_
  refine wp_getR dX12_comesRule_92 lX12_73 rfl (mO S1) (mR_of S1) ?_
  refine wp_aload_n dX12_comesRule_95 rfl rfl ?_
  refine wp_getIV dX12_comesRule_96 lX12_378 rfl (mO S1) efI41_1 ?_
  refine wp_iconst (v := (nI 0)) dX12_comesRule_99 (by decide +kernel) ?_
  refine wp_iastN dX12_comesRule_100 (mA_of S1) rfl ⟨by omega, by decide⟩ ?_
  refine sealAI eI172_1 (fun hh2 f2 e2 => ?_)
  have S2 := f2.s S1
  have efI41_2 := (f2.fI 41 (by decide) (by decide)).trans efI41_1
  have eI175_2 := (f2.Ir (by decide) (by decide)).trans eI175_1
  have eL171_2 := (f2.Lr (by decide) (by decide)).trans e1
  refine wp_aload_n dX12_comesRule_101 rfl rfl ?_
  refine wp_dup dX12_comesRule_102 rfl ?_
  refine wp_getIV dX12_comesRule_103 lX12_378 rfl (mO S2) efI41_2 ?_
  refine wp_iconst (v := (nI 1)) dX12_comesRule_106 (by decide +kernel) ?_
  refine wp_iadd dX12_comesRule_107 ?_
  refine wp_putIN dX12_comesRule_108 lX12_378 rfl rfl (Or.inl rfl) (mO S2) (isN_add rfl rfl) ?_
  refine sealI (fun hh3 f3 e3 => ?_)
  have S3 := f3.s S2
  have eI175_3 := (f3.Ir (by decide) (by decide)).trans eI175_2
  have eL171_3 := (f3.Lr (by decide) (by decide)).trans eL171_2
  have eI172_3 := (f3.Ir (by decide) (by decide)).trans e2
  refine wp_aload_n dX12_comesRule_111 rfl rfl ?_
  refine wp_getR dX12_comesRule_112 lX12_83 rfl (mO S3) (mR_found S3) ?_
  refine wp_iload dX12_comesRule_115 rfl ?_
  refine wp_aload_n dX12_comesRule_117 rfl rfl ?_
  refine wp_getIV dX12_comesRule_118 lX12_378 rfl (mO S3) e3 ?_
  refine wp_iastN dX12_comesRule_121 (mA_found S3) rfl ⟨Nat.mod_lt _ (by decide), by decide⟩ ?_
  refine sealAI eI175_3 (fun hh4 f4 e4 => ?_)
  have S4 := f4.s S3
  have eL171_4 := (f4.Lr (by decide) (by decide)).trans eL171_3
  have eI172_4 := (f4.Ir (by decide) (by decide)).trans eI172_3
  have efI41_4 := (f4.fI 41 (by decide) (by decide)).trans e3
  refine wp_aload_n dX12_comesRule_122 rfl rfl ?_
  refine wp_getR dX12_comesRule_123 lX12_73 rfl (mO S4) (mR_of S4) ?_
  refine wp_aload_n dX12_comesRule_126 rfl rfl ?_
  refine wp_getR dX12_comesRule_127 lX12_83 rfl (mO S4) (mR_found S4) ?_
  refine wp_iload dX12_comesRule_130 rfl ?_
  refine wp_ialdV dX12_comesRule_132 (mA_found S4) rfl ⟨Nat.mod_lt _ (by decide), by decide⟩ ((congrFun e4 _).trans (upI_at _ _ _)) ?_
  refine wp_iconst (v := (nI 1)) dX12_comesRule_133 (by decide +kernel) ?_
  refine wp_isub dX12_comesRule_134 ?_
  refine wp_dup2 dX12_comesRule_135 rfl rfl ?_
  refine wp_ialdV dX12_comesRule_136 (mA_of S4) (isN_sub rfl rfl (by omega)) ⟨by omega, by decide⟩ ((congrFun eI172_4 _).trans (upI_at _ _ _)) ?_
  refine wp_iconst (v := (nI 1)) dX12_comesRule_137 (by decide +kernel) ?_
  refine wp_iload_n dX12_comesRule_138 rfl rfl ?_
  refine wp_ishl dX12_comesRule_139 ?_
  refine wp_ior dX12_comesRule_140 ?_
  refine wp_iastN dX12_comesRule_141 (mA_of S4) (isN_sub rfl rfl (by omega)) ⟨by omega, by decide⟩ ?_
  refine sealAI eI172_4 (fun hh5 f5 e5 => ?_)
  have S5 := f5.s S4
  have eL171_5 := (f5.Lr (by decide) (by decide)).trans eL171_4
  have efI41_5 := (f5.fI 41 (by decide) (by decide)).trans efI41_4
  have eI175_5 := (f5.Ir (by decide) (by decide)).trans e4
  refine wp_vreturn dX12_comesRule_142 rfl ?_
  refine hq _ _ (((((f1.up (by decide) (by decide)).tr (f2.up (by decide) (by decide))).tr (f3.up (by decide) (by decide))).tr (f4.up (by decide) (by decide))).tr (f5.up (by decide) (by decide))) (by omega) (by omega) (rul_new q hk hp hw h0 efI41_5 eL171_5 e5 ?_ eI175_5)
  rw [nx_shl1 (by omega), nx_or, Nat.zero_or]
set_option maxRecDepth 20000 in
theorem come_old {h : mH} {Q : Option Value → mH → Prop} {B : Nat → Nat → Prop} {n k p s j : Nat} {K O T : Nat → Nat} {x2 x3 x4 x5 : Int32} (hs : mS h) (q : rul h B n K O T) (hn : n < 12000) (hp : p < 6) (hs9 : s < 32768) (es : T s = j + 1) (hj : j < n) (hkj : K j = k) (hq : ∀ h' n', mFr (mP [41] [171, 172, 175]) h h' → n ≤ n' → n' ≤ n + 1 → rulX h' (addB B p k) n' → Q none h') : Wp mX12_comesRule 2 45 70 [some (.ref 153), some (.int (nI p)), some (.int x2), some (.int x3), some (.int x4), some (.int x5), some (.long (lN k)), none, some (.int (nI s))] [] h Q := by
  refine wp_aload_n dX12_comesRule_70 rfl rfl ?_
  refine wp_getR dX12_comesRule_71 lX12_83 rfl (mO hs) (mR_found hs) ?_
  refine wp_iload dX12_comesRule_74 rfl ?_
  refine wp_ialdV dX12_comesRule_76 (mA_found hs) rfl ⟨hs9, by decide⟩ ((congrFun (rfl : hI h 175 = hI h 175) _).trans ((q.2.2.2.1 s hs9).trans (congrArg nI es))) ?_
  refine wp_if_neN dX12_comesRule_77 rfl (by omega) (fun _ => ?_) (fun q9 => absurd q9 (by omega))
  refine wp_aload_n dX12_comesRule_122 rfl rfl ?_
  refine wp_getR dX12_comesRule_123 lX12_73 rfl (mO hs) (mR_of hs) ?_
  refine wp_aload_n dX12_comesRule_126 rfl rfl ?_
  refine wp_getR dX12_comesRule_127 lX12_83 rfl (mO hs) (mR_found hs) ?_
  refine wp_iload dX12_comesRule_130 rfl ?_
  refine wp_ialdV dX12_comesRule_132 (mA_found hs) rfl ⟨hs9, by decide⟩ ((congrFun (rfl : hI h 175 = hI h 175) _).trans ((q.2.2.2.1 s hs9).trans (congrArg nI es))) ?_
  refine wp_iconst (v := (nI 1)) dX12_comesRule_133 (by decide +kernel) ?_
  refine wp_isub dX12_comesRule_134 ?_
  refine wp_dup2 dX12_comesRule_135 rfl rfl ?_
  refine wp_ialdV dX12_comesRule_136 (mA_of hs) (isN_sub rfl rfl (by omega)) ⟨by omega, by decide⟩ ((congrFun (rfl : hI h 172 = hI h 172) _).trans (q.2.2.1 j hj).1) ?_
  refine wp_iconst (v := (nI 1)) dX12_comesRule_137 (by decide +kernel) ?_
  refine wp_iload_n dX12_comesRule_138 rfl rfl ?_
  refine wp_ishl dX12_comesRule_139 ?_
  refine wp_ior dX12_comesRule_140 ?_
  refine wp_iastN dX12_comesRule_141 (mA_of hs) (isN_sub rfl rfl (by omega)) ⟨by omega, by decide⟩ ?_
  refine sealAI (rfl : hI h 172 = hI h 172) (fun hh1 f1 e1 => ?_)
  have S1 := f1.s hs
  have efI41_1 := (f1.fI 41 (by decide) (by decide)).trans q.1
  have eL171_1 := (f1.Lr (by decide) (by decide)).trans (rfl : hL h 171 = hL h 171)
  have eI175_1 := (f1.Ir (by decide) (by decide)).trans (rfl : hI h 175 = hI h 175)
  refine wp_vreturn dX12_comesRule_142 rfl ?_
  refine hq _ _ (f1.up (by decide) (by decide)) (by omega) (by omega) (rul_old (j := j) q hj hkj hp efI41_1 eL171_1 e1 ?_ eI175_1)
  rw [nx_shl1 (by omega), nx_or]
set_option maxRecDepth 20000 in
theorem pX12_comesRule {h : mH} {Q : Option Value → mH → Prop} {B : Nat → Nat → Prop} {n p a b c d : Nat} (hs : mS h) (ru : rulX h B n) (hn : n < 12000) (hp : p < 6) (ha : a < 256) (hb : b < 256) (hc : c < 256) (hd : d < 256) (hq : ∀ h' n', mFr (mP [41] [171, 172, 175]) h h' → n ≤ n' → n' ≤ n + 1 → rulX h' (addB B p (kN a b c d)) n' → Q none h') : Wp mX12_comesRule 2 45 0 [some (.ref 153), some (.int (nI p)), some (.int (itm a)), some (.int (itm b)), some (.int (itm c)), some (.int (itm d)), none, none, none] [] h Q := by
  refine wp_iload_n dX12_comesRule_0 rfl rfl ?_
  refine wp_iload_n dX12_comesRule_1 rfl rfl ?_
  refine wp_iload dX12_comesRule_2 rfl ?_
  refine wp_iload dX12_comesRule_4 rfl ?_
  refine wp_cS4 1 20 [some _, some _, some _, some _, none, none] dX12_comesRule_6 tX12_keyOf sX12_keyOf lX12_370 ⟨by decide, by decide⟩ (Nat.le_of_ble_eq_true rfl) (Nat.le_of_ble_eq_true rfl) rfl ?_
  refine pX12_keyOf ha hb hc hd ?_
  intro _ _
  refine wp_lstore (ls1 := [_, _, _, _, _, _, some _, _, _]) dX12_comesRule_9 (by decide) rfl ?_
  refine wp_lload dX12_comesRule_11 rfl ?_
  refine wp_ldc2 dX12_comesRule_13 lX12_374 ?_
  refine wp_lmul dX12_comesRule_16 ?_
  refine wp_bipush (v := (nI 13)) dX12_comesRule_17 (by decide +kernel) ?_
  refine wp_lshr dX12_comesRule_19 ?_
  refine wp_ldc2 dX12_comesRule_20 lX12_376 ?_
  refine wp_land dX12_comesRule_23 ?_
  refine wp_l2i dX12_comesRule_24 ?_
  refine wp_istore (ls1 := [_, _, _, _, _, _, _, _, some _]) dX12_comesRule_25 (by decide) rfl ?_
  rw [(kH_e (kN a b c d)).1]
  obtain ⟨K, O, T, q⟩ := ru
  exact come_loop hs q hn (kN_lt ha hb hc hd) (fun d9 hw h0 => come_new hs q hn hp (kN_lt ha hb hc hd) hw h0 hq) (fun s j hs9 es hj hkj => come_old hs q hn hp hs9 es hj hkj hq)
