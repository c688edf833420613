/-! ===== lines of pages ===== -/
theorem psT_le {tb : Nat → Int32} {N a : Nat} (h : a ≤ N) : ∀ k, psT tb N a k ≤ N
  | 0 => (tE_le h).2.1
  | k + 1 => (tE_le (psT_le h k)).2.1
theorem rdS_pl {h h' : mH} {f : Nat} {nm : Nat → Int64} {rp mn : Nat → Int32} {P : Nat} {ct : Nat → Nat} {rw : Nat → Nat → Int64} {n : Nat} {W : Nat → Int64} {U : Nat → Int64} (hr : rdS h f nm rp mn P ct rw) (e19 : hI h' 153 19 = nI f) (e20 : hI h' 153 20 = nI (P + 1)) (e155 : hL h' 155 = hL h 155) (e157 : hI h' 157 = hI h 157) (e160 : hI h' 160 = hI h 160) (e158 : hI h' 158 = upI (hI h 158) P (nI n)) (e156 : hL h' 156 = U) (hU : ∀ y, y < 40 * P → U y = hL h 156 y) (hW : ∀ j, j < n → U (40 * P + j) = W j) (hc : ∀ p, p < P → ct p ≤ 40) : rdS h' f nm rp mn (P + 1) (fun p => if p = P then n else ct p) (fun p => if p = P then W else rw p) := by
  refine ⟨e19, ?_, e20, fun p hp => ?_⟩
  · rw [e155, e157, e160]
    exact hr.2.1
  · rw [e158, e156]
    by_cases e : p = P
    · subst e
      rw [upI_at]
      simp only [if_true]
      exact ⟨trivial, hW⟩
    · rw [upI_ne e]
      simp only [if_neg e]
      refine ⟨(hr.2.2.2 p (by omega)).1, fun j hj => ?_⟩
      have := hc p (by omega)
      rw [hU _ (by omega)]
      exact (hr.2.2.2 p (by omega)).2 j hj
set_option maxRecDepth 20000 in
theorem pX12_fieldLine4 {h : mH} {Q : Option Value → mH → Prop} {tb : Nat → Int32} {N a : Nat} (hg : pG h tb N a) (h19 : hI h 153 19 = nI 4) (hs : tS tb N a = 1) (hq : ∀ h', mFr pwL h h' → pB h' 2 (tP tb N a) → Q none h') : Wp mX12_fieldLine 3 67 0 [some (.ref 153), none, none, none, none] [] h Q := by
  refine wp_aload_n dX12_fieldLine_0 rfl rfl ?_
  refine wp_getIV dX12_fieldLine_1 lX12_206 rfl (mO hg.1.1) h19 ?_
  refine wp_istore_n (ls1 := [_, some _, _, _, _]) dX12_fieldLine_4 rfl (by decide) rfl ?_
  refine wp_iload_n dX12_fieldLine_5 rfl rfl ?_
  refine wp_iconst (v := (nI 4)) dX12_fieldLine_6 (by decide +kernel) ?_
  refine wp_icmp_ne dX12_fieldLine_7 (fun q => absurd q (by decide +kernel)) (fun _ => ?_)
  refine wp_aload_n dX12_fieldLine_10 rfl rfl ?_
  refine wp_iconst (v := (nI 2)) dX12_fieldLine_11 (by decide +kernel) ?_
  refine wp_cV1 0 0 [some _, some _] dX12_fieldLine_12 tX12_wrong rfl (by decide) nX12_wrong vX12_wrong lX12_197 ⟨by decide, by decide⟩ (Nat.le_of_ble_eq_true rfl) (mO hg.1.1) (Nat.le_of_ble_eq_true rfl) rfl ?_
  refine pX12_wrong hg (by decide) (fun hh1 f1 b1 => ?_)
  intro _ _
  have efI19_1 := (f1.fI 19 (by decide) (by decide)).trans h19
  refine wp_aload_n dX12_fieldLine_15 rfl rfl ?_
  refine wp_cV0 0 0 [some _] dX12_fieldLine_16 tX12_isGood rfl (by decide) nX12_isGood vX12_isGood lX12_212 ⟨by decide, by decide⟩ (Nat.le_of_ble_eq_true rfl) (mO b1.1) (Nat.le_of_ble_eq_true rfl) rfl ?_
  refine wp_aload_n dX12_isGood_0 rfl rfl ?_
  refine wp_getIV dX12_isGood_1 lX12_184 rfl (mO b1.1) b1.2.1 ?_
  refine wp_if_neN dX12_isGood_4 rfl (by have := b1.2.2.2.1; omega) (fun _ => ?_) (fun q9 => absurd q9 (by have := b1.2.2.1; omega))
  refine wp_iconst (v := (nI 0)) dX12_isGood_11 (by decide +kernel) ?_
  refine wp_zreturn dX12_isGood_12 rfl (Or.inl rfl) ?_
  intro _ _
  refine wp_if_eq dX12_fieldLine_19 (fun _ => ?_) (fun q => absurd q (by decide +kernel))
  refine wp_aload_n dX12_fieldLine_26 rfl rfl ?_
  refine wp_cV0 1 21 [some _] dX12_fieldLine_27 tX12_nameHere rfl (by decide) nX12_nameHere vX12_nameHere lX12_216 ⟨by decide, by decide⟩ (Nat.le_of_ble_eq_true rfl) (mO b1.1) (Nat.le_of_ble_eq_true rfl) rfl ?_
  refine pX12_nameHereB b1 ?_
  intro _ _
  refine wp_lstore_n (ls1 := [_, _, some _, _, _]) dX12_fieldLine_30 rfl (by decide) rfl ?_
  refine wp_iconst (v := (nI 0)) dX12_fieldLine_31 (by decide +kernel) ?_
  refine wp_istore (ls1 := [_, _, _, _, some _]) dX12_fieldLine_32 (by decide) rfl ?_
  refine wp_iload dX12_fieldLine_34 rfl ?_
  refine wp_iload_n dX12_fieldLine_36 rfl rfl ?_
  refine wp_icmp_ge dX12_fieldLine_37 (fun q => absurd q (by decide +kernel)) (fun _ => ?_)
  refine wp_aload_n dX12_fieldLine_40 rfl rfl ?_
  refine wp_cV0 0 0 [some _] dX12_fieldLine_41 tX12_isGood rfl (by decide) nX12_isGood vX12_isGood lX12_212 ⟨by decide, by decide⟩ (Nat.le_of_ble_eq_true rfl) (mO b1.1) (Nat.le_of_ble_eq_true rfl) rfl ?_
  refine wp_aload_n dX12_isGood_0 rfl rfl ?_
  refine wp_getIV dX12_isGood_1 lX12_184 rfl (mO b1.1) b1.2.1 ?_
  refine wp_if_neN dX12_isGood_4 rfl (by have := b1.2.2.2.1; omega) (fun _ => ?_) (fun q9 => absurd q9 (by have := b1.2.2.1; omega))
  refine wp_iconst (v := (nI 0)) dX12_isGood_11 (by decide +kernel) ?_
  refine wp_zreturn dX12_isGood_12 rfl (Or.inl rfl) ?_
  intro _ _
  refine wp_if_eq dX12_fieldLine_44 (fun _ => ?_) (fun q => absurd q (by decide +kernel))
  refine wp_aload_n dX12_fieldLine_70 rfl rfl ?_
  refine wp_getIV dX12_fieldLine_71 lX12_184 rfl (mO b1.1) b1.2.1 ?_
  refine wp_if_leN dX12_fieldLine_74 rfl (by have := b1.2.2.2.1; omega) (fun q9 => absurd q9 (by have := b1.2.2.1; omega)) (fun _ => ?_)
  refine wp_vreturn dX12_fieldLine_77 rfl ?_
  exact hq _ (f1.up (by decide) (by decide)) (by rw [bd_w hs] at b1; exact b1)
set_option maxRecDepth 20000 in
theorem pX12_pageLine6 {h : mH} {Q : Option Value → mH → Prop} {tb : Nat → Int32} {N a : Nat} (hg : pG h tb N a) (h20 : hI h 153 20 = nI 6) (hs : tS tb N a = 1) (hq : ∀ h', mFr pwL h h' → pB h' 2 (tP tb N a) → Q none h') : Wp mX12_pageLine 2 43 0 [some (.ref 153), none, none] [] h Q := by
  refine wp_aload_n dX12_pageLine_0 rfl rfl ?_
  refine wp_getIV dX12_pageLine_1 lX12_209 rfl (mO hg.1.1) h20 ?_
  refine wp_istore_n (ls1 := [_, some _, _]) dX12_pageLine_4 rfl (by decide) rfl ?_
  refine wp_iload_n dX12_pageLine_5 rfl rfl ?_
  refine wp_bipush (v := (nI 6)) dX12_pageLine_6 (by decide +kernel) ?_
  refine wp_icmp_ne dX12_pageLine_8 (fun q => absurd q (by decide +kernel)) (fun _ => ?_)
  refine wp_aload_n dX12_pageLine_11 rfl rfl ?_
  refine wp_iconst (v := (nI 2)) dX12_pageLine_12 (by decide +kernel) ?_
  refine wp_cV1 0 0 [some _, some _] dX12_pageLine_13 tX12_wrong rfl (by decide) nX12_wrong vX12_wrong lX12_197 ⟨by decide, by decide⟩ (Nat.le_of_ble_eq_true rfl) (mO hg.1.1) (Nat.le_of_ble_eq_true rfl) rfl ?_
  refine pX12_wrong hg (by decide) (fun hh1 f1 b1 => ?_)
  intro _ _
  have efI20_1 := (f1.fI 20 (by decide) (by decide)).trans h20
  refine wp_aload_n dX12_pageLine_16 rfl rfl ?_
  refine wp_cV0 0 0 [some _] dX12_pageLine_17 tX12_isGood rfl (by decide) nX12_isGood vX12_isGood lX12_212 ⟨by decide, by decide⟩ (Nat.le_of_ble_eq_true rfl) (mO b1.1) (Nat.le_of_ble_eq_true rfl) rfl ?_
  refine wp_aload_n dX12_isGood_0 rfl rfl ?_
  refine wp_getIV dX12_isGood_1 lX12_184 rfl (mO b1.1) b1.2.1 ?_
  refine wp_if_neN dX12_isGood_4 rfl (by have := b1.2.2.2.1; omega) (fun _ => ?_) (fun q9 => absurd q9 (by have := b1.2.2.1; omega))
  refine wp_iconst (v := (nI 0)) dX12_isGood_11 (by decide +kernel) ?_
  refine wp_zreturn dX12_isGood_12 rfl (Or.inl rfl) ?_
  intro _ _
  refine wp_if_eq dX12_pageLine_20 (fun _ => ?_) (fun q => absurd q (by decide +kernel))
  refine wp_iconst (v := (nI 0)) dX12_pageLine_27 (by decide +kernel) ?_
  refine wp_istore_n (ls1 := [_, _, some _]) dX12_pageLine_28 rfl (by decide) rfl ?_
  refine wp_aload_n dX12_pageLine_29 rfl rfl ?_
  refine wp_cV0 1 20 [some _] dX12_pageLine_30 tX12_isPageToken rfl (by decide) nX12_isPageToken vX12_isPageToken lX12_230 ⟨by decide, by decide⟩ (Nat.le_of_ble_eq_true rfl) (mO b1.1) (Nat.le_of_ble_eq_true rfl) rfl ?_
  refine pX12_isPageTokenB b1 ?_
  intro _ _
  refine wp_if_ne dX12_pageLine_33 (fun q => absurd q (by decide +kernel)) (fun _ => ?_)
  refine wp_aload_n dX12_pageLine_36 rfl rfl ?_
  refine wp_iconst (v := (nI 2)) dX12_pageLine_37 (by decide +kernel) ?_
  refine wp_cV1 0 0 [some _, some _] dX12_pageLine_38 tX12_wrong rfl (by decide) nX12_wrong vX12_wrong lX12_197 ⟨by decide, by decide⟩ (Nat.le_of_ble_eq_true rfl) (mO b1.1) (Nat.le_of_ble_eq_true rfl) rfl ?_
  refine pX12_wrongB b1 ?_
  intro _ _
  refine wp_aload_n dX12_pageLine_41 rfl rfl ?_
  refine wp_cV0 1 20 [some _] dX12_pageLine_42 tX12_isPageToken rfl (by decide) nX12_isPageToken vX12_isPageToken lX12_230 ⟨by decide, by decide⟩ (Nat.le_of_ble_eq_true rfl) (mO b1.1) (Nat.le_of_ble_eq_true rfl) rfl ?_
  refine pX12_isPageTokenB b1 ?_
  intro _ _
  refine wp_if_eq dX12_pageLine_45 (fun _ => ?_) (fun q => absurd q (by decide +kernel))
  refine wp_aload_n dX12_pageLine_92 rfl rfl ?_
  refine wp_ldc2 dX12_pageLine_93 lX12_195 ?_
  refine wp_cV1 0 0 [some _, some _, none] dX12_pageLine_96 tX12_isWord rfl (by decide) nX12_isWord vX12_isWord lX12_220 ⟨by decide, by decide⟩ (Nat.le_of_ble_eq_true rfl) (mO b1.1) (Nat.le_of_ble_eq_true rfl) rfl ?_
  refine pX12_isWordB b1 ?_
  intro _ _
  refine wp_if_ne dX12_pageLine_99 (fun q => absurd q (by decide +kernel)) (fun _ => ?_)
  refine wp_aload_n dX12_pageLine_102 rfl rfl ?_
  refine wp_iconst (v := (nI 2)) dX12_pageLine_103 (by decide +kernel) ?_
  refine wp_cV1 0 0 [some _, some _] dX12_pageLine_104 tX12_wrong rfl (by decide) nX12_wrong vX12_wrong lX12_197 ⟨by decide, by decide⟩ (Nat.le_of_ble_eq_true rfl) (mO b1.1) (Nat.le_of_ble_eq_true rfl) rfl ?_
  refine pX12_wrongB b1 ?_
  intro _ _
  refine wp_aload_n dX12_pageLine_107 rfl rfl ?_
  refine wp_getIV dX12_pageLine_108 lX12_184 rfl (mO b1.1) b1.2.1 ?_
  refine wp_if_leN dX12_pageLine_111 rfl (by have := b1.2.2.2.1; omega) (fun q9 => absurd q9 (by have := b1.2.2.1; omega)) (fun _ => ?_)
  refine wp_vreturn dX12_pageLine_114 rfl ?_
  exact hq _ (f1.up (by decide) (by decide)) (by rw [bd_w hs] at b1; exact b1)
set_option maxRecDepth 20000 in
theorem page_loop {h : mH} {Q : Option Value → mH → Prop} {tb : Nat → Int32} {N a P : Nat} (hg : pG h tb N (tE tb N a)) (hP : P < 6) (K1 : ∀ k h1 U, k ≤ 40 → pcT tb N a = k → isPT tb N (psT tb N a k) = false → mFr (mP [3, 4, 5, 6, 7, 8, 11] [156]) h h1 → pG h1 tb N (psT tb N a k) → hL h1 156 = U → (∀ y, y < 40 * P → U y = hL h 156 y) → (∀ j, j < k → U (40 * P + j) = tW tb N (psT tb N a j)) → hI h1 153 8 = hI h 153 8 → Wp mX12_pageLine 2 43 92 [some (.ref 153), some (.int (nI P)), some (.int (nI k))] [] h1 Q) (K2 : pcT tb N a = 40 → isPT tb N (psT tb N a 40) = true → ∀ h', mFr (mP [3, 4, 5, 6, 7, 8, 11] [156]) h h' → pB h' (bd tb N 2 (psT tb N a 40)) (tP tb N (psT tb N a 40)) → Q none h') : Wp mX12_pageLine 2 43 41 [some (.ref 153), some (.int (nI P)), some (.int (nI 0))] [] h Q := by
  have hloop : ∀  (n : Nat) (k : Nat) (h1 : mH) (U : Nat → Int64), (k ≤ 40) → (mFr (mP [3, 4, 5, 6, 7, 8, 11] [156]) h h1) → (pG h1 tb N (psT tb N a k)) → (hL h1 156 = U) → (∀ j, j < k → isPT tb N (psT tb N a j) = true) → (∀ y, y < 40 * P → U y = hL h 156 y) → (∀ j, j < k → U (40 * P + j) = tW tb N (psT tb N a j)) → (hI h1 153 8 = hI h 153 8) → (40 < k + n) → Wp mX12_pageLine 2 43 41 [some (.ref 153), some (.int (nI P)), some (.int (nI k))] [] h1 Q := by
    intro n
    induction n with
    | zero => intros; omega
    | succ n ih =>
      intro k h1 U hk hf1 g1 e1 hpt hU hW e8 hmz
      refine wp_aload_n dX12_pageLine_41 rfl rfl ?_
      refine wp_cV0 1 20 [some _] dX12_pageLine_42 tX12_isPageToken rfl (by decide) nX12_isPageToken vX12_isPageToken lX12_230 ⟨by decide, by decide⟩ (Nat.le_of_ble_eq_true rfl) (mO g1.1.1) (Nat.le_of_ble_eq_true rfl) rfl ?_
      refine pX12_isPageToken g1 (fun pt1 => ?_) (fun pt1 => ?_)
      · intro _ _
        refine wp_if_eq dX12_pageLine_45 (fun q => absurd q (by decide +kernel)) (fun _ => ?_)
        refine wp_iload_n dX12_pageLine_48 rfl rfl ?_
        refine wp_bipush (v := (nI 40)) dX12_pageLine_49 (by decide +kernel) ?_
        refine wp_icmp_neN dX12_pageLine_51 rfl rfl ⟨by have := tS_le (tb := tb) (N := N) (a := (psT tb N a k)); omega, by omega⟩ (fun c2 => ?_) (fun c2 => ?_)
        · refine wp_aload_n dX12_pageLine_59 rfl rfl ?_
          refine wp_getIV dX12_pageLine_60 lX12_184 rfl (mO g1.1.1) g1.2.2.1 ?_
          refine wp_if_le dX12_pageLine_63 (fun _ => ?_) (fun q => absurd q (by decide +kernel))
          refine wp_aload_n dX12_pageLine_67 rfl rfl ?_
          refine wp_getR dX12_pageLine_68 lX12_24 rfl (mO g1.1.1) (mR_readWords g1.1.1) ?_
          refine wp_bipush (v := (nI 40)) dX12_pageLine_71 (by decide +kernel) ?_
          refine wp_iload_n dX12_pageLine_73 rfl rfl ?_
          refine wp_imul dX12_pageLine_74 ?_
          refine wp_iload_n dX12_pageLine_75 rfl rfl ?_
          refine wp_iadd dX12_pageLine_76 ?_
          refine wp_aload_n dX12_pageLine_77 rfl rfl ?_
          refine wp_getLV dX12_pageLine_78 lX12_164 rfl (mO g1.1.1) g1.2.1.2.2.2 ?_
          refine wp_lastN dX12_pageLine_81 (mA_readWords g1.1.1) (isN_add (isN_mul rfl rfl) rfl) ⟨by omega, by decide⟩ ?_
          refine sealAL e1 (fun hh2 f2 e2 => ?_)
          have g2 := g1.fr f2 (by decide) (by decide)
          have efI8_2 := (f2.fI 8 (by decide) (by decide)).trans e8
          refine wp_iinc1 (ls1 := [_, _, some _]) dX12_pageLine_82 rfl (by decide) rfl ?_
          refine wp_aload_n dX12_pageLine_85 rfl rfl ?_
          refine wp_cV0 1 21 [some _, none, none] dX12_pageLine_86 tX12_goOn rfl (by decide) nX12_goOn vX12_goOn lX12_200 ⟨by decide, by decide⟩ (Nat.le_of_ble_eq_true rfl) (mO g2.1.1) (Nat.le_of_ble_eq_true rfl) rfl ?_
          refine pX12_goOn g2 (fun hh3 f3 g3 => ?_)
          intro _ _
          have efI8_3 := (f3.fI 8 (by decide) (by decide)).trans efI8_2
          have eL156_3 := (f3.Lr (by decide) (by decide)).trans e2
          refine wp_goto dX12_pageLine_89 ?_
          refine ih (k + 1) _ _ (by omega) (((hf1.up (by decide) (by decide)).tr (f2.up (by decide) (by decide))).tr (f3.up (by decide) (by decide))) g3 eL156_3 (fun j hj => ?_) (fun y hy => ?_) (fun j hj => ?_) efI8_3 (by omega)
          · rcases Nat.lt_or_eq_of_le (show j ≤ k by omega) with z1 | z1
            · exact hpt j z1
            · rw [z1]; assumption
          · rw [up1_ne (by omega)]; exact hU y hy
          · by_cases z1 : j = k
            · subst z1; exact up1_at _ _ _
            · rw [up1_ne (by omega)]; exact hW j (by omega)
        · have e40 : k = 40 := by omega
          subst e40
          refine wp_aload_n dX12_pageLine_54 rfl rfl ?_
          refine wp_iconst (v := (nI 2)) dX12_pageLine_55 (by decide +kernel) ?_
          refine wp_cV1 0 0 [some _, some _] dX12_pageLine_56 tX12_wrong rfl (by decide) nX12_wrong vX12_wrong lX12_197 ⟨by decide, by decide⟩ (Nat.le_of_ble_eq_true rfl) (mO g1.1.1) (Nat.le_of_ble_eq_true rfl) rfl ?_
          refine pX12_wrong g1 (by decide) (fun hh4 f4 b4 => ?_)
          intro _ _
          have eL156_4 := (f4.Lr (by decide) (by decide)).trans e1
          refine wp_aload_n dX12_pageLine_59 rfl rfl ?_
          refine wp_getIV dX12_pageLine_60 lX12_184 rfl (mO b4.1) b4.2.1 ?_
          refine wp_if_leN dX12_pageLine_63 rfl (by have := b4.2.2.2.1; omega) (fun q9 => absurd q9 (by have := b4.2.2.1; omega)) (fun _ => ?_)
          refine wp_vreturn dX12_pageLine_66 rfl ?_
          exact K2 (rnF_eq 40 0 40 (by omega) (by omega) (fun j _ hj => hpt j (by omega)) (Or.inl rfl)) (by assumption) _ ((hf1.up (by decide) (by decide)).tr (f4.up (by decide) (by decide))) b4
      · intro _ _
        refine wp_if_eq dX12_pageLine_45 (fun _ => ?_) (fun q => absurd q (by decide +kernel))
        exact K1 k _ _ hk (rnF_eq 40 0 k (by omega) (by omega) (fun j _ hj => hpt j hj) (Or.inr (by assumption))) (by assumption) (hf1.up (by decide) (by decide)) g1 e1 hU hW e8
  exact hloop 41 0 h _ (by omega) mFr.rf hg rfl (fun j hj => by omega) (fun y hy => rfl) (fun j hj => by omega) rfl (by omega)
theorem isPT_e {tb : Nat → Int32} {N a : Nat} (h : isPT tb N a = true) : isWd tb N a tWe = false := decide_eq_false (fun q => by
  rcases of_decide_eq_true h with z | z | z
  · exact z.2 q.2
  · omega
  · omega)
set_option maxRecDepth 20000 in
theorem pX12_pageLine {h : mH} {Q : Option Value → mH → Prop} {tb : Nat → Int32} {N a f : Nat} {nm : Nat → Int64} {rp mn : Nat → Int32} {P : Nat} {ct : Nat → Nat} {rw : Nat → Nat → Int64} (hg : pG h tb N a) (hr : rdS h f nm rp mn P ct rw) (hP : P < 6) (hct : ∀ p, p < P → ct p ≤ 40) (he : ∀ fa pl, lP tb N a = .error (fa, pl) → ∀ h', mFr pwL h h' → pB h' fa pl → Q none h') (hq : ∀ a' n, lP tb N a = .ok (a', n) → 0 < n ∧ n ≤ 40 → ∀ h', mFr pwL h h' → pG h' tb N a' → rdS h' f nm rp mn (P + 1) (fun p => if p = P then n else ct p) (fun p => if p = P then (fun j => tW tb N (psT tb N a j)) else rw p) → hI h' 153 8 = hI h 153 8 → Q none h') : Wp mX12_pageLine 2 43 0 [some (.ref 153), none, none] [] h Q := by
  refine wp_aload_n dX12_pageLine_0 rfl rfl ?_
  refine wp_getIV dX12_pageLine_1 lX12_209 rfl (mO hg.1.1) hr.2.2.1 ?_
  refine wp_istore_n (ls1 := [_, some _, _]) dX12_pageLine_4 rfl (by decide) rfl ?_
  refine wp_iload_n dX12_pageLine_5 rfl rfl ?_
  refine wp_bipush (v := (nI 6)) dX12_pageLine_6 (by decide +kernel) ?_
  refine wp_icmp_neN dX12_pageLine_8 rfl rfl ⟨by omega, by omega⟩ (fun _ => ?_) (fun q9 => absurd q9 (by omega))
  refine wp_aload_n dX12_pageLine_16 rfl rfl ?_
  refine wp_cV0 0 0 [some _] dX12_pageLine_17 tX12_isGood rfl (by decide) nX12_isGood vX12_isGood lX12_212 ⟨by decide, by decide⟩ (Nat.le_of_ble_eq_true rfl) (mO hg.1.1) (Nat.le_of_ble_eq_true rfl) rfl ?_
  refine wp_aload_n dX12_isGood_0 rfl rfl ?_
  refine wp_getIV dX12_isGood_1 lX12_184 rfl (mO hg.1.1) hg.2.2.1 ?_
  refine wp_if_ne dX12_isGood_4 (fun q => absurd q (by decide +kernel)) (fun _ => ?_)
  refine wp_iconst (v := (nI 1)) dX12_isGood_7 (by decide +kernel) ?_
  refine wp_goto dX12_isGood_8 ?_
  refine wp_zreturn dX12_isGood_12 rfl (Or.inr rfl) ?_
  intro _ _
  refine wp_if_eq dX12_pageLine_20 (fun q => absurd q (by decide +kernel)) (fun _ => ?_)
  refine wp_aload_n dX12_pageLine_23 rfl rfl ?_
  refine wp_cV0 1 21 [some _, none, none] dX12_pageLine_24 tX12_goOn rfl (by decide) nX12_goOn vX12_goOn lX12_200 ⟨by decide, by decide⟩ (Nat.le_of_ble_eq_true rfl) (mO hg.1.1) (Nat.le_of_ble_eq_true rfl) rfl ?_
  refine pX12_goOn hg (fun hh1 f1 g1 => ?_)
  intro _ _
  have efI19_1 := (f1.fI 19 (by decide) (by decide)).trans hr.1
  have efI20_1 := (f1.fI 20 (by decide) (by decide)).trans hr.2.2.1
  have efI8_1 := (f1.fI 8 (by decide) (by decide)).trans (rfl : hI h 153 8 = hI h 153 8)
  have eL155_1 := (f1.Lr (by decide) (by decide)).trans (rfl : hL h 155 = hL h 155)
  have eL156_1 := (f1.Lr (by decide) (by decide)).trans (rfl : hL h 156 = hL h 156)
  have eI157_1 := (f1.Ir (by decide) (by decide)).trans (rfl : hI h 157 = hI h 157)
  have eI158_1 := (f1.Ir (by decide) (by decide)).trans (rfl : hI h 158 = hI h 158)
  have eI160_1 := (f1.Ir (by decide) (by decide)).trans (rfl : hI h 160 = hI h 160)
  refine wp_iconst (v := (nI 0)) dX12_pageLine_27 (by decide +kernel) ?_
  refine wp_istore_n (ls1 := [_, _, some _]) dX12_pageLine_28 rfl (by decide) rfl ?_
  refine wp_aload_n dX12_pageLine_29 rfl rfl ?_
  refine wp_cV0 1 20 [some _] dX12_pageLine_30 tX12_isPageToken rfl (by decide) nX12_isPageToken vX12_isPageToken lX12_230 ⟨by decide, by decide⟩ (Nat.le_of_ble_eq_true rfl) (mO g1.1.1) (Nat.le_of_ble_eq_true rfl) rfl ?_
  refine pX12_isPageToken g1 (fun pt2 => ?_) (fun pt2 => ?_)
  · intro _ _
    refine wp_if_ne dX12_pageLine_33 (fun _ => ?_) (fun q => absurd q (by decide +kernel))
    refine page_loop g1 hP (fun k3 hh3 U3 hk3 pc3 np3 f3 g3 eU3 hU3 hW3 e83 => ?_) (fun pc3 np3 hh3 f3 b3 => ?_)
    · have efI19_3 := (f3.fI 19 (by decide) (by decide)).trans efI19_1
      have efI20_3 := (f3.fI 20 (by decide) (by decide)).trans efI20_1
      have eL155_3 := (f3.Lr (by decide) (by decide)).trans eL155_1
      have eI157_3 := (f3.Ir (by decide) (by decide)).trans eI157_1
      have eI158_3 := (f3.Ir (by decide) (by decide)).trans eI158_1
      have eI160_3 := (f3.Ir (by decide) (by decide)).trans eI160_1
      rw [eL156_1] at hU3
      have kp3 : 0 < k3 := Nat.pos_of_ne_zero (fun z9 => by rw [z9] at np3; exact Bool.noConfusion (np3.symm.trans (pt2 : isPT tb N (psT tb N a 0) = true)))
      refine wp_aload_n dX12_pageLine_92 rfl rfl ?_
      refine wp_ldc2 dX12_pageLine_93 lX12_195 ?_
      refine wp_cV1 0 0 [some _, some _, none] dX12_pageLine_96 tX12_isWord rfl (by decide) nX12_isWord vX12_isWord lX12_220 ⟨by decide, by decide⟩ (Nat.le_of_ble_eq_true rfl) (mO g3.1.1) (Nat.le_of_ble_eq_true rfl) rfl ?_
      refine pX12_isWord g3 (fun we5 => ?_) (fun we5 => ?_)
      · intro _ _
        change isWd tb N _ tWe = _ at we5
        refine wp_if_ne dX12_pageLine_99 (fun _ => ?_) (fun q => absurd q (by decide +kernel))
        refine wp_aload_n dX12_pageLine_107 rfl rfl ?_
        refine wp_getIV dX12_pageLine_108 lX12_184 rfl (mO g3.1.1) g3.2.2.1 ?_
        refine wp_if_le dX12_pageLine_111 (fun _ => ?_) (fun q => absurd q (by decide +kernel))
        refine wp_aload_n dX12_pageLine_115 rfl rfl ?_
        refine wp_cV0 1 21 [some _, none, none] dX12_pageLine_116 tX12_goOn rfl (by decide) nX12_goOn vX12_goOn lX12_200 ⟨by decide, by decide⟩ (Nat.le_of_ble_eq_true rfl) (mO g3.1.1) (Nat.le_of_ble_eq_true rfl) rfl ?_
        refine pX12_goOn g3 (fun hh6 f6 g6 => ?_)
        intro _ _
        have efI19_6 := (f6.fI 19 (by decide) (by decide)).trans efI19_3
        have efI20_6 := (f6.fI 20 (by decide) (by decide)).trans efI20_3
        have eL155_6 := (f6.Lr (by decide) (by decide)).trans eL155_3
        have eI157_6 := (f6.Ir (by decide) (by decide)).trans eI157_3
        have eI158_6 := (f6.Ir (by decide) (by decide)).trans eI158_3
        have eI160_6 := (f6.Ir (by decide) (by decide)).trans eI160_3
        have eL156_6 := (f6.Lr (by decide) (by decide)).trans eU3
        have efI8_6 := (f6.fI 8 (by decide) (by decide)).trans (e83.trans efI8_1)
        refine wp_aload_n dX12_pageLine_119 rfl rfl ?_
        refine wp_getIV dX12_pageLine_120 lX12_168 rfl (mO g6.1.1) g6.2.1.2.1 ?_
        refine wp_iconst (v := (nI 3)) dX12_pageLine_123 (by decide +kernel) ?_
        refine wp_icmp_neN dX12_pageLine_124 rfl rfl ⟨by have := tS_le (tb := tb) (N := N) (a := (tE tb N (psT tb N a k3))); omega, by omega⟩ (fun c7 => ?_) (fun c7 => ?_)
        · refine wp_aload_n dX12_pageLine_138 rfl rfl ?_
          refine wp_iconst (v := (nI 2)) dX12_pageLine_139 (by decide +kernel) ?_
          refine wp_cV1 0 0 [some _, some _] dX12_pageLine_140 tX12_wrong rfl (by decide) nX12_wrong vX12_wrong lX12_197 ⟨by decide, by decide⟩ (Nat.le_of_ble_eq_true rfl) (mO g6.1.1) (Nat.le_of_ble_eq_true rfl) rfl ?_
          refine pX12_wrong g6 (by decide) (fun hh7 f7 b7 => ?_)
          intro _ _
          have efI19_7 := (f7.fI 19 (by decide) (by decide)).trans efI19_6
          have efI20_7 := (f7.fI 20 (by decide) (by decide)).trans efI20_6
          have eL155_7 := (f7.Lr (by decide) (by decide)).trans eL155_6
          have eI157_7 := (f7.Ir (by decide) (by decide)).trans eI157_6
          have eI158_7 := (f7.Ir (by decide) (by decide)).trans eI158_6
          have eI160_7 := (f7.Ir (by decide) (by decide)).trans eI160_6
          have eL156_7 := (f7.Lr (by decide) (by decide)).trans eL156_6
          refine wp_aload_n dX12_pageLine_143 rfl rfl ?_
          refine wp_getIV dX12_pageLine_144 lX12_184 rfl (mO b7.1) b7.2.1 ?_
          refine wp_if_leN dX12_pageLine_147 rfl (by have := b7.2.2.2.1; omega) (fun q9 => absurd q9 (by have := b7.2.2.1; omega)) (fun _ => ?_)
          refine wp_vreturn dX12_pageLine_150 rfl ?_
          have sm9 : isSm tb N (tE tb N (psT tb N a k3)) = false := decide_eq_false (fun q9 => by first | exact absurd q9.1 (by assumption) | exact absurd q9.2 (by assumption))
          exact he _ _ (by unfold lP; rw [pc3, if_neg (by omega)]; rw [if_pos we5, if_neg (by rw [sm9]; decide)]) _ ((((f1.up (by decide) (by decide)).tr (f3.up (by decide) (by decide))).tr (f6.up (by decide) (by decide))).tr (f7.up (by decide) (by decide))) b7
        · refine wp_aload_n dX12_pageLine_127 rfl rfl ?_
          refine wp_getLV dX12_pageLine_128 lX12_164 rfl (mO g6.1.1) g6.2.1.2.2.2 ?_
          refine wp_ldc2 dX12_pageLine_131 lX12_228 ?_
          refine wp_lc_eq dX12_pageLine_134 dX12_pageLine_135 (fun c9 => ?_) (fun c9 => ?_)
          · refine wp_aload_n dX12_pageLine_143 rfl rfl ?_
            refine wp_getIV dX12_pageLine_144 lX12_184 rfl (mO g6.1.1) g6.2.2.1 ?_
            refine wp_if_le dX12_pageLine_147 (fun _ => ?_) (fun q => absurd q (by decide +kernel))
            refine wp_aload_n dX12_pageLine_151 rfl rfl ?_
            refine wp_cV0 1 21 [some _, none, none] dX12_pageLine_152 tX12_goOn rfl (by decide) nX12_goOn vX12_goOn lX12_200 ⟨by decide, by decide⟩ (Nat.le_of_ble_eq_true rfl) (mO g6.1.1) (Nat.le_of_ble_eq_true rfl) rfl ?_
            refine pX12_goOn g6 (fun hh8 f8 g8 => ?_)
            intro _ _
            have efI19_8 := (f8.fI 19 (by decide) (by decide)).trans efI19_6
            have efI20_8 := (f8.fI 20 (by decide) (by decide)).trans efI20_6
            have eL155_8 := (f8.Lr (by decide) (by decide)).trans eL155_6
            have eI157_8 := (f8.Ir (by decide) (by decide)).trans eI157_6
            have eI158_8 := (f8.Ir (by decide) (by decide)).trans eI158_6
            have eI160_8 := (f8.Ir (by decide) (by decide)).trans eI160_6
            have eL156_8 := (f8.Lr (by decide) (by decide)).trans eL156_6
            have efI8_8 := (f8.fI 8 (by decide) (by decide)).trans efI8_6
            refine wp_aload_n dX12_pageLine_155 rfl rfl ?_
            refine wp_getR dX12_pageLine_156 lX12_30 rfl (mO g8.1.1) (mR_readTokens g8.1.1) ?_
            refine wp_iload_n dX12_pageLine_159 rfl rfl ?_
            refine wp_iload_n dX12_pageLine_160 rfl rfl ?_
            refine wp_iastN dX12_pageLine_161 (mA_readTokens g8.1.1) rfl ⟨by omega, by decide⟩ ?_
            refine sealAI eI158_8 (fun hh9 f9 e9 => ?_)
            have g9 := g8.fr f9 (by decide) (by decide)
            have efI19_9 := (f9.fI 19 (by decide) (by decide)).trans efI19_8
            have efI20_9 := (f9.fI 20 (by decide) (by decide)).trans efI20_8
            have eL155_9 := (f9.Lr (by decide) (by decide)).trans eL155_8
            have eI157_9 := (f9.Ir (by decide) (by decide)).trans eI157_8
            have eI160_9 := (f9.Ir (by decide) (by decide)).trans eI160_8
            have eL156_9 := (f9.Lr (by decide) (by decide)).trans eL156_8
            have efI8_9 := (f9.fI 8 (by decide) (by decide)).trans efI8_8
            refine wp_aload_n dX12_pageLine_162 rfl rfl ?_
            refine wp_dup dX12_pageLine_163 rfl ?_
            refine wp_getIV dX12_pageLine_164 lX12_209 rfl (mO g9.1.1) efI20_9 ?_
            refine wp_iconst (v := (nI 1)) dX12_pageLine_167 (by decide +kernel) ?_
            refine wp_iadd dX12_pageLine_168 ?_
            refine wp_putIN dX12_pageLine_169 lX12_209 rfl rfl (Or.inl rfl) (mO g9.1.1) (isN_add rfl rfl) ?_
            refine sealI (fun hh10 f10 e10 => ?_)
            have g10 := g9.fr f10 (by decide) (by decide)
            have efI19_10 := (f10.fI 19 (by decide) (by decide)).trans efI19_9
            have eL155_10 := (f10.Lr (by decide) (by decide)).trans eL155_9
            have eI157_10 := (f10.Ir (by decide) (by decide)).trans eI157_9
            have eI160_10 := (f10.Ir (by decide) (by decide)).trans eI160_9
            have eL156_10 := (f10.Lr (by decide) (by decide)).trans eL156_9
            have efI8_10 := (f10.fI 8 (by decide) (by decide)).trans efI8_9
            have eI158_10 := (f10.Ir (by decide) (by decide)).trans e9
            refine wp_vreturn dX12_pageLine_172 rfl ?_
            have sm9 : isSm tb N (tE tb N (psT tb N a k3)) = true := decide_eq_true ⟨by assumption, by assumption⟩
            exact hq _ _ (by unfold lP; rw [pc3, if_neg (by omega)]; rw [if_pos we5, if_pos sm9]) ⟨kp3, hk3⟩ _ ((((((f1.up (by decide) (by decide)).tr (f3.up (by decide) (by decide))).tr (f6.up (by decide) (by decide))).tr (f8.up (by decide) (by decide))).tr (f9.up (by decide) (by decide))).tr (f10.up (by decide) (by decide))) g10 (rdS_pl hr efI19_10 e10 eL155_10 eI157_10 eI160_10 eI158_10 eL156_10 hU3 hW3 hct) efI8_10
          · refine wp_aload_n dX12_pageLine_138 rfl rfl ?_
            refine wp_iconst (v := (nI 2)) dX12_pageLine_139 (by decide +kernel) ?_
            refine wp_cV1 0 0 [some _, some _] dX12_pageLine_140 tX12_wrong rfl (by decide) nX12_wrong vX12_wrong lX12_197 ⟨by decide, by decide⟩ (Nat.le_of_ble_eq_true rfl) (mO g6.1.1) (Nat.le_of_ble_eq_true rfl) rfl ?_
            refine pX12_wrong g6 (by decide) (fun hh11 f11 b11 => ?_)
            intro _ _
            have efI19_11 := (f11.fI 19 (by decide) (by decide)).trans efI19_6
            have efI20_11 := (f11.fI 20 (by decide) (by decide)).trans efI20_6
            have eL155_11 := (f11.Lr (by decide) (by decide)).trans eL155_6
            have eI157_11 := (f11.Ir (by decide) (by decide)).trans eI157_6
            have eI158_11 := (f11.Ir (by decide) (by decide)).trans eI158_6
            have eI160_11 := (f11.Ir (by decide) (by decide)).trans eI160_6
            have eL156_11 := (f11.Lr (by decide) (by decide)).trans eL156_6
            refine wp_aload_n dX12_pageLine_143 rfl rfl ?_
            refine wp_getIV dX12_pageLine_144 lX12_184 rfl (mO b11.1) b11.2.1 ?_
            refine wp_if_leN dX12_pageLine_147 rfl (by have := b11.2.2.2.1; omega) (fun q9 => absurd q9 (by have := b11.2.2.1; omega)) (fun _ => ?_)
            refine wp_vreturn dX12_pageLine_150 rfl ?_
            have sm9 : isSm tb N (tE tb N (psT tb N a k3)) = false := decide_eq_false (fun q9 => by first | exact absurd q9.1 (by assumption) | exact absurd q9.2 (by assumption))
            exact he _ _ (by unfold lP; rw [pc3, if_neg (by omega)]; rw [if_pos we5, if_neg (by rw [sm9]; decide)]) _ ((((f1.up (by decide) (by decide)).tr (f3.up (by decide) (by decide))).tr (f6.up (by decide) (by decide))).tr (f11.up (by decide) (by decide))) b11
      · intro _ _
        change isWd tb N _ tWe = _ at we5
        refine wp_if_ne dX12_pageLine_99 (fun q => absurd q (by decide +kernel)) (fun _ => ?_)
        refine wp_aload_n dX12_pageLine_102 rfl rfl ?_
        refine wp_iconst (v := (nI 2)) dX12_pageLine_103 (by decide +kernel) ?_
        refine wp_cV1 0 0 [some _, some _] dX12_pageLine_104 tX12_wrong rfl (by decide) nX12_wrong vX12_wrong lX12_197 ⟨by decide, by decide⟩ (Nat.le_of_ble_eq_true rfl) (mO g3.1.1) (Nat.le_of_ble_eq_true rfl) rfl ?_
        refine pX12_wrong g3 (by decide) (fun hh12 f12 b12 => ?_)
        intro _ _
        have efI19_12 := (f12.fI 19 (by decide) (by decide)).trans efI19_3
        have efI20_12 := (f12.fI 20 (by decide) (by decide)).trans efI20_3
        have eL155_12 := (f12.Lr (by decide) (by decide)).trans eL155_3
        have eI157_12 := (f12.Ir (by decide) (by decide)).trans eI157_3
        have eI158_12 := (f12.Ir (by decide) (by decide)).trans eI158_3
        have eI160_12 := (f12.Ir (by decide) (by decide)).trans eI160_3
        have eL156_12 := (f12.Lr (by decide) (by decide)).trans eU3
        refine wp_aload_n dX12_pageLine_107 rfl rfl ?_
        refine wp_getIV dX12_pageLine_108 lX12_184 rfl (mO b12.1) b12.2.1 ?_
        refine wp_if_leN dX12_pageLine_111 rfl (by have := b12.2.2.2.1; omega) (fun q9 => absurd q9 (by have := b12.2.2.1; omega)) (fun _ => ?_)
        refine wp_vreturn dX12_pageLine_114 rfl ?_
        exact he _ _ (by unfold lP; rw [pc3, if_neg (by omega)]; rw [if_neg (by rw [we5]; decide)]) _ (((f1.up (by decide) (by decide)).tr (f3.up (by decide) (by decide))).tr (f12.up (by decide) (by decide))) b12
    · have efI19_3 := (f3.fI 19 (by decide) (by decide)).trans efI19_1
      have efI20_3 := (f3.fI 20 (by decide) (by decide)).trans efI20_1
      have eL155_3 := (f3.Lr (by decide) (by decide)).trans eL155_1
      have eI157_3 := (f3.Ir (by decide) (by decide)).trans eI157_1
      have eI158_3 := (f3.Ir (by decide) (by decide)).trans eI158_1
      have eI160_3 := (f3.Ir (by decide) (by decide)).trans eI160_1
      refine he _ _ ?_ _ ((f1.up (by decide) (by decide)).tr (f3.up (by decide) (by decide))) b3
      unfold lP
      rw [pc3, if_neg (by decide), if_neg (by rw [isPT_e np3]; decide)]
  · intro _ _
    refine wp_if_ne dX12_pageLine_33 (fun q => absurd q (by decide +kernel)) (fun _ => ?_)
    refine wp_aload_n dX12_pageLine_36 rfl rfl ?_
    refine wp_iconst (v := (nI 2)) dX12_pageLine_37 (by decide +kernel) ?_
    refine wp_cV1 0 0 [some _, some _] dX12_pageLine_38 tX12_wrong rfl (by decide) nX12_wrong vX12_wrong lX12_197 ⟨by decide, by decide⟩ (Nat.le_of_ble_eq_true rfl) (mO g1.1.1) (Nat.le_of_ble_eq_true rfl) rfl ?_
    refine pX12_wrong g1 (by decide) (fun hh13 f13 b13 => ?_)
    intro _ _
    have efI19_13 := (f13.fI 19 (by decide) (by decide)).trans efI19_1
    have efI20_13 := (f13.fI 20 (by decide) (by decide)).trans efI20_1
    have eL155_13 := (f13.Lr (by decide) (by decide)).trans eL155_1
    have eL156_13 := (f13.Lr (by decide) (by decide)).trans eL156_1
    have eI157_13 := (f13.Ir (by decide) (by decide)).trans eI157_1
    have eI158_13 := (f13.Ir (by decide) (by decide)).trans eI158_1
    have eI160_13 := (f13.Ir (by decide) (by decide)).trans eI160_1
    refine wp_aload_n dX12_pageLine_41 rfl rfl ?_
    refine wp_cV0 1 20 [some _] dX12_pageLine_42 tX12_isPageToken rfl (by decide) nX12_isPageToken vX12_isPageToken lX12_230 ⟨by decide, by decide⟩ (Nat.le_of_ble_eq_true rfl) (mO b13.1) (Nat.le_of_ble_eq_true rfl) rfl ?_
    refine pX12_isPageTokenB b13 ?_
    intro _ _
    refine wp_if_eq dX12_pageLine_45 (fun _ => ?_) (fun q => absurd q (by decide +kernel))
    refine wp_aload_n dX12_pageLine_92 rfl rfl ?_
    refine wp_ldc2 dX12_pageLine_93 lX12_195 ?_
    refine wp_cV1 0 0 [some _, some _, none] dX12_pageLine_96 tX12_isWord rfl (by decide) nX12_isWord vX12_isWord lX12_220 ⟨by decide, by decide⟩ (Nat.le_of_ble_eq_true rfl) (mO b13.1) (Nat.le_of_ble_eq_true rfl) rfl ?_
    refine pX12_isWordB b13 ?_
    intro _ _
    refine wp_if_ne dX12_pageLine_99 (fun q => absurd q (by decide +kernel)) (fun _ => ?_)
    refine wp_aload_n dX12_pageLine_102 rfl rfl ?_
    refine wp_iconst (v := (nI 2)) dX12_pageLine_103 (by decide +kernel) ?_
    refine wp_cV1 0 0 [some _, some _] dX12_pageLine_104 tX12_wrong rfl (by decide) nX12_wrong vX12_wrong lX12_197 ⟨by decide, by decide⟩ (Nat.le_of_ble_eq_true rfl) (mO b13.1) (Nat.le_of_ble_eq_true rfl) rfl ?_
    refine pX12_wrongB b13 ?_
    intro _ _
    refine wp_aload_n dX12_pageLine_107 rfl rfl ?_
    refine wp_getIV dX12_pageLine_108 lX12_184 rfl (mO b13.1) b13.2.1 ?_
    refine wp_if_leN dX12_pageLine_111 rfl (by have := b13.2.2.2.1; omega) (fun q9 => absurd q9 (by have := b13.2.2.1; omega)) (fun _ => ?_)
    refine wp_vreturn dX12_pageLine_114 rfl ?_
    have pc9 : pcT tb N a = 0 := rnF_eq 40 0 0 (by omega) (by omega) (fun j _ hj => by omega) (Or.inr pt2)
    exact he _ _ (by unfold lP; rw [pc9, if_pos rfl]; rfl) _ ((f1.up (by decide) (by decide)).tr (f13.up (by decide) (by decide))) b13
