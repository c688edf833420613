/-! ===== cut, by, tries, right ===== -/
theorem lf_no {r : Nat → Int64} {F p f : Nat} (hp : p < rP r) (h6 : rP r ≤ 6) (hf : f < F) (h4 : F ≤ 4) (h : (ix (nI p) (rP r) = none ∨ ix (nI f) F = none) ∨ ∃ f', f' < F ∧ nI f = nI f' ∧ ¬ r (655 + 70 * f') = 1) : ¬ r (655 + 70 * f) = 1 := by
  rcases h with (h | h) | ⟨f', h1, h2, h3⟩
  · rw [ix_nI hp (by omega)] at h; cases h
  · rw [ix_nI hf (by omega)] at h; cases h
  · rw [nI_eq (by omega) (by omega)] at h2
    rw [h2]; exact h3
theorem cn_s {r : Nat → Int64} {F p f : Nat} (hp : p < rP r) (h6 : rP r ≤ 6) (hf : f < F) (h4 : F ≤ 4) (h : r (655 + 70 * f) = 1) : cnC r F (nI p) (nI f) = some (p, f) := by
  unfold cnC
  rw [ix_nI hp (by omega), ix_nI hf (by omega)]
  exact if_pos h
theorem cn_n {r : Nat → Int64} {F : Nat} {x y : Int32} (h4 : F ≤ 4) (h : (ix x (rP r) = none ∨ ix y F = none) ∨ ∃ f, f < F ∧ y = nI f ∧ ¬ r (655 + 70 * f) = 1) : cnC r F x y = none := by
  unfold cnC
  rcases h with (h | h) | ⟨f, h1, h2, h3⟩
  · rw [h]
  · rw [h]
    cases ix x (rP r) <;> rfl
  · rw [h2, ix_nI h1 (by omega)]
    cases ix x (rP r) with
    | none => rfl
    | some p => exact if_neg h3
theorem cb_8 {r : Nat → Int64} {my : Nat → Int32} {f a e : Nat} {P : Int32 → Nat → Bool} (ha : a ≤ e) : (cuL (cbX r my f P a e)).length ≤ 8 := by
  cases z : cbX r my f P a e with
  | none => exact Nat.zero_le _
  | some x =>
    have h := (cbX_some z).2.1
    show x.2.length ≤ 8
    rw [h]
    have h1 := (cutL_ok (P := P) (b := e) (far := lrI r f x.1 0) (near := lrI r f x.1 1) (sec := lrI r f x.1 2) (stop := lrI r f x.1 3) (mzN (my f)) a ha).1
    have h2 : mzN (my f) ≤ 8 := by unfold mzN; split <;> decide
    exact Nat.le_trans h1 h2
theorem cu_8 {r : Nat → Int64} {F : Nat} {pa my : Nat → Int32} {p f : Nat} {but : Int32} (hd : sOK r F pa my) (hf : f < F) : (cuL (cuX r pa my p but f)).length ≤ 8 := by
  have hF4 := hd.f4
  rcases hd.par f hf with e | ⟨g, hg, e, _⟩
  · rw [(rgC_cu hd hf (Or.inl ⟨e, rfl, rfl⟩)).1]
    exact cb_8 (Nat.zero_le _)
  · cases z : cuX r pa my p but g with
    | none =>
      have h1 : cuX r pa my p but f = match cuX r pa my p but g with | none => none | some x => cbX r my f (pmR r p but) (hd2 x.2).1 (hd2 x.2).2 := crX_par hd hf hg e
      rw [h1, z]
      exact Nat.zero_le _
    | some x =>
      have h1 := rgC_cu hd hf (Or.inr ⟨g, x, e, hg, z, rfl, rfl⟩)
      rw [h1.1]
      exact cb_8 h1.2.1
set_option maxRecDepth 20000 in
theorem pX11_cut {h : mH} {Q : Option Value → mH → Prop} {ow : Nat → Nat} {F fa o1 d1 u1 : Nat} {pa my : Nat → Int32} {r : Nat → Int64} {pl : Nat → Int64} {gb ge : Int32} {gs gn : Int64} {gf gt : Int32} {x y i w : Int32} (e9 : eS ow h F pa my r fa o1 d1 u1) (hd : sOK r F pa my) (zg : zG ow h pl gb ge gs gn gf gt) (hq : ∀ h', cFr [1] 0 ow h ow h' → (∃ pl gb ge gs gn gf gt, zG ow h' pl gb ge gs gn gf gt) → Q (some (.int (spCut r F pa my x y i w))) h') : Wp mX11_cut 6 146 0 [some (.ref 0), some (.int x), some (.int y), some (.int i), some (.int w)] [] h Q := by
  have hP6 := hd.w.1.2
  have hF4 := hd.f4
  have hT40 : ∀ p, p < 6 → rT r p ≤ 40 := fun p hp => (hd.w.2.1 p hp).2
  have hz : ∀ h' z, cFr [1] 0 ow h ow h' → (∃ pl gb ge gs gn gf gt, zG ow h' pl gb ge gs gn gf gt) → spCut r F pa my x y i w = z → Q (some (.int z)) h' := fun h' z f1 g e => e ▸ hq h' f1 g
  refine wp_aload_n dX11_cut_0 rfl rfl ?_
  refine wp_iload_n dX11_cut_1 rfl rfl ?_
  refine wp_iload_n dX11_cut_2 rfl rfl ?_
  refine wp_cV2 4 85 [some _, some _, some _] dX11_cut_3 tX11_learntFor rfl (by decide) nX11_learntFor vX11_learntFor lX11_332 ⟨by decide, by decide⟩ (Nat.le_of_ble_eq_true rfl) e9.oo (Nat.le_of_ble_eq_true rfl) rfl ?_
  refine pX11_learntFor e9 hd (fun p1 f1 hp1 hff1 ep1 ef1 hl1 => ?_) (fun xn1 => ?_)
  · subst ep1
    subst ef1
    intro _ _
    refine wp_if_ne dX11_cut_6 (fun _ => ?_) (fun q => absurd q (by decide +kernel))
    refine wp_aload_n dX11_cut_11 rfl rfl ?_
    refine wp_iload_n dX11_cut_12 rfl rfl ?_
    refine wp_iload_n dX11_cut_13 rfl rfl ?_
    refine wp_iconst (v := (-1)) dX11_cut_14 (by decide +kernel) ?_
    refine wp_cV3 5 119 [some _, some _, some _, some _, none, none, none, none] dX11_cut_15 tX11_slicePage rfl (by decide) nX11_slicePage vX11_slicePage lX11_335 ⟨by decide, by decide⟩ (Nat.le_of_ble_eq_true rfl) e9.oo (Nat.le_of_ble_eq_true rfl) rfl ?_
    refine pX11_slicePage e9 hd zg (by omega) (by omega) (fun hh2 pl2 gb2 ge2 gf2 gt2 v2 f2 zg_2 gp2 ev2 => ?_)
    intro _ _
    have e9_2 := e9.fr f2 (by decide)
    refine wp_pop dX11_cut_18 rfl ?_
    refine wp_aload_n dX11_cut_19 rfl rfl ?_
    refine wp_getR dX11_cut_20 lX11_60 rfl e9_2.oo e9_2.r10 ?_
    refine wp_getLV dX11_cut_23 lX11_339 rfl zg_2.o zg_2.f3 ?_
    refine wp_aload_n dX11_cut_26 rfl rfl ?_
    refine wp_getR dX11_cut_27 lX11_60 rfl e9_2.oo e9_2.r10 ?_
    refine wp_getLV dX11_cut_30 lX11_342 rfl zg_2.o zg_2.f4 ?_
    refine wp_iload_n dX11_cut_33 rfl rfl ?_
    refine wp_iload dX11_cut_34 rfl ?_
    refine wp_cS4 3 67 [some _, none, some _, none, some _, some _, none] dX11_cut_36 tX11_partOf sX11_partOf lX11_279 ⟨by decide, by decide⟩ (Nat.le_of_ble_eq_true rfl) (Nat.le_of_ble_eq_true rfl) rfl ?_
    refine pX11_partOf (srt_cu hd (by omega)) (Nat.lt_of_le_of_lt (rowL_len _ _) (Nat.lt_of_le_of_lt (hT40 _ (by omega)) (by decide))) (cu_8 hd (by omega)) ?_
    intro _ _
    refine wp_ireturn dX11_cut_39 rfl ?_
    exact hz _ _ (f2.up (by decide) (Nat.le_refl _)) ⟨_, _, _, _, _, _, _, zg_2⟩ (by unfold spCut; rw [cn_s (by omega) hP6 (by omega) hF4 hl1])
  · intro _ _
    refine wp_if_ne dX11_cut_6 (fun q => absurd q (by decide +kernel)) (fun _ => ?_)
    refine wp_iconst (v := (-1)) dX11_cut_9 (by decide +kernel) ?_
    refine wp_ireturn dX11_cut_10 rfl ?_
    exact hz _ _ cFr.rf ⟨_, _, _, _, _, _, _, zg⟩ (by unfold spCut; rw [cn_n hF4 xn1])
set_option maxRecDepth 20000 in
theorem pX11_by {h : mH} {Q : Option Value → mH → Prop} {ow : Nat → Nat} {F fa o1 d1 u1 : Nat} {pa my : Nat → Int32} {r : Nat → Int64} {pl : Nat → Int64} {gb ge : Int32} {gs gn : Int64} {gf gt : Int32} {x y : Int32} (e9 : eS ow h F pa my r fa o1 d1 u1) (hd : sOK r F pa my) (zg : zG ow h pl gb ge gs gn gf gt) (hq : ∀ h', cFr [1] 0 ow h ow h' → (∃ pl gb ge gs gn gf gt, zG ow h' pl gb ge gs gn gf gt) → Q (some (.int (spBy r F pa my x y))) h') : Wp mX11_by 6 146 0 [some (.ref 0), some (.int x), some (.int y)] [] h Q := by
  have hP6 := hd.w.1.2
  have hF4 := hd.f4
  have hT40 : ∀ p, p < 6 → rT r p ≤ 40 := fun p hp => (hd.w.2.1 p hp).2
  have hz : ∀ h' z, cFr [1] 0 ow h ow h' → (∃ pl gb ge gs gn gf gt, zG ow h' pl gb ge gs gn gf gt) → spBy r F pa my x y = z → Q (some (.int z)) h' := fun h' z f1 g e => e ▸ hq h' f1 g
  refine wp_aload_n dX11_by_0 rfl rfl ?_
  refine wp_iload_n dX11_by_1 rfl rfl ?_
  refine wp_iload_n dX11_by_2 rfl rfl ?_
  refine wp_cV2 4 85 [some _, some _, some _] dX11_by_3 tX11_learntFor rfl (by decide) nX11_learntFor vX11_learntFor lX11_332 ⟨by decide, by decide⟩ (Nat.le_of_ble_eq_true rfl) e9.oo (Nat.le_of_ble_eq_true rfl) rfl ?_
  refine pX11_learntFor e9 hd (fun p1 f1 hp1 hff1 ep1 ef1 hl1 => ?_) (fun xn1 => ?_)
  · subst ep1
    subst ef1
    intro _ _
    refine wp_if_eq dX11_by_6 (fun q => absurd q (by decide +kernel)) (fun _ => ?_)
    refine wp_aload_n dX11_by_9 rfl rfl ?_
    refine wp_iload_n dX11_by_10 rfl rfl ?_
    refine wp_iload_n dX11_by_11 rfl rfl ?_
    refine wp_iconst (v := (-1)) dX11_by_12 (by decide +kernel) ?_
    refine wp_cV3 5 119 [some _, some _, some _, some _, none, none, none, none] dX11_by_13 tX11_slicePage rfl (by decide) nX11_slicePage vX11_slicePage lX11_335 ⟨by decide, by decide⟩ (Nat.le_of_ble_eq_true rfl) e9.oo (Nat.le_of_ble_eq_true rfl) rfl ?_
    refine pX11_slicePage e9 hd zg (by omega) (by omega) (fun hh2 pl2 gb2 ge2 gf2 gt2 v2 f2 zg_2 gp2 ev2 => ?_)
    intro _ _
    have e9_2 := e9.fr f2 (by decide)
    refine wp_goto dX11_by_16 ?_
    refine wp_ireturn dX11_by_20 rfl ?_
    exact hz _ _ (f2.up (by decide) (Nat.le_refl _)) ⟨_, _, _, _, _, _, _, zg_2⟩ (by unfold spBy; rw [cn_s (by omega) hP6 (by omega) hF4 hl1]; exact ev2)
  · intro _ _
    refine wp_if_eq dX11_by_6 (fun _ => ?_) (fun q => absurd q (by decide +kernel))
    refine wp_iconst (v := (-1)) dX11_by_19 (by decide +kernel) ?_
    refine wp_ireturn dX11_by_20 rfl ?_
    exact hz _ _ cFr.rf ⟨_, _, _, _, _, _, _, zg⟩ (by unfold spBy; rw [cn_n hF4 xn1])
theorem itK_c {r : Nat → Int64} {x : Int32} (hw : WF r) (h : itK r x = true) : ∃ c, c ≤ 243 ∧ x = itm c := by
  have hl := uqA_len hw
  unfold itK at h
  rw [Bool.and_eq_true] at h
  have h1 := of_decide_eq_true h.1
  have h2 := of_decide_eq_true h.2
  rw [Int32.le_iff_toInt_le] at h1 h2
  rw [nI_toInt (by omega)] at h2
  have hm : (-1 : Int32).toInt = -1 := by decide
  rw [hm] at h1
  by_cases z : x = -1
  · exact ⟨0, by decide, z⟩
  · refine ⟨x.toInt.toNat + 1, by omega, ?_⟩
    unfold itm
    rw [if_neg (by omega), Nat.add_sub_cancel]
    have h3 : 0 ≤ x.toInt := by
      have : x.toInt ≠ -1 := fun w => z (Int32.toInt_inj.mp (w.trans hm.symm))
      omega
    rw [← Int32.toInt_inj, nI_toInt (by omega)]
    omega
theorem itK_y {r : Nat → Int64} {x : Int32} (hw : WF r) (h1 : ¬ x < -1) (h2 : ¬ nI 3 + nI (uqA r).length ≤ x) : itK r x = true := by
  have hl := uqA_len hw
  unfold itK
  rw [nI_add, Int32.le_iff_toInt_le, nI_toInt (by omega)] at h2
  rw [Int32.lt_iff_toInt_lt] at h1
  rw [Bool.and_eq_true]
  refine ⟨decide_eq_true ?_, decide_eq_true ?_⟩
  · rw [Int32.le_iff_toInt_le]; omega
  · rw [Int32.le_iff_toInt_le, nI_toInt (by omega)]; omega
theorem itK_f1 {r : Nat → Int64} {x : Int32} (h1 : x < -1) : itK r x = false := by
  unfold itK
  rw [Int32.lt_iff_toInt_lt] at h1
  rw [Bool.and_eq_false_iff]
  exact Or.inl (decide_eq_false (by rw [Int32.le_iff_toInt_le]; omega))
theorem itK_f2 {r : Nat → Int64} {x : Int32} (hw : WF r) (h2 : nI 3 + nI (uqA r).length ≤ x) : itK r x = false := by
  have hl := uqA_len hw
  unfold itK
  rw [nI_add, Int32.le_iff_toInt_le, nI_toInt (by omega)] at h2
  rw [Bool.and_eq_false_iff]
  exact Or.inr (decide_eq_false (by rw [Int32.le_iff_toInt_le, nI_toInt (by omega)]; omega))
set_option maxRecDepth 20000 in
theorem pX11_isItem {h : mH} {Q : Option Value → mH → Prop} {ow : Nat → Nat} {F fa o1 d1 u1 : Nat} {pa my : Nat → Int32} {r : Nat → Int64} {x : Int32} (e9 : eS ow h F pa my r fa o1 d1 u1) (hd : sOK r F pa my) (ht : itK r x = true → Q (some (.int (nI 1))) h) (hf : itK r x = false → Q (some (.int (nI 0))) h) : Wp mX11_isItem 3 63 0 [some (.ref 0), some (.int x)] [] h Q := by
  have hP6 := hd.w.1.2
  have hF4 := hd.f4
  refine wp_iload_n dX11_isItem_0 rfl rfl ?_
  refine wp_iconst (v := (-1)) dX11_isItem_1 (by decide +kernel) ?_
  refine wp_icmp_lt dX11_isItem_2 (fun c1 => ?_) (fun c1 => ?_)
  · refine wp_iconst (v := (nI 0)) dX11_isItem_25 (by decide +kernel) ?_
    refine wp_zreturn dX11_isItem_26 rfl (by first | exact Or.inl rfl | exact Or.inr rfl) ?_
    first | exact hf (itK_f1 (by assumption)) | exact hf (itK_f2 hd.w (by assumption))
  · refine wp_iload_n dX11_isItem_5 rfl rfl ?_
    refine wp_iconst (v := (nI 3)) dX11_isItem_6 (by decide +kernel) ?_
    refine wp_aload_n dX11_isItem_7 rfl rfl ?_
    refine wp_getR dX11_isItem_8 lX11_34 rfl e9.oo e9.r6 ?_
    refine wp_cV0 2 43 [some _] dX11_isItem_11 tX3_now rfl (by decide) nX3_now vX3_now lX11_101 ⟨by decide, by decide⟩ (Nat.le_of_ble_eq_true rfl) e9.hh.o (Nat.le_of_ble_eq_true rfl) rfl ?_
    refine pX3_now e9.hh e9.kb e9.od.1 e9.od.2 ?_
    intro _ _
    refine wp_cV0 1 21 [some _, none] dX11_isItem_14 tX8_unlikeTokens rfl (by decide) nX8_unlikeTokens vX8_unlikeTokens lX11_306 ⟨by decide, by decide⟩ (Nat.le_of_ble_eq_true rfl) e9.st.oo (Nat.le_of_ble_eq_true rfl) rfl ?_
    refine pX8_unlikeTokens e9.st hP6 ?_
    intro _ _
    refine wp_iadd dX11_isItem_17 ?_
    refine wp_icmp_ge dX11_isItem_18 (fun c2 => ?_) (fun c2 => ?_)
    · refine wp_iconst (v := (nI 0)) dX11_isItem_25 (by decide +kernel) ?_
      refine wp_zreturn dX11_isItem_26 rfl (by first | exact Or.inl rfl | exact Or.inr rfl) ?_
      first | exact hf (itK_f1 (by assumption)) | exact hf (itK_f2 hd.w (by assumption))
    · refine wp_iconst (v := (nI 1)) dX11_isItem_21 (by decide +kernel) ?_
      refine wp_goto dX11_isItem_22 ?_
      refine wp_zreturn dX11_isItem_26 rfl (by first | exact Or.inl rfl | exact Or.inr rfl) ?_
      first | exact ht (itK_y hd.w (by assumption) (by assumption))
theorem kN_le {a b c d : Nat} (ha : a ≤ 243) (hb : b ≤ 243) (hc : c ≤ 243) (hd : d ≤ 243) : ∀ w, w < 4 → kI (kN a b c d) w ≤ 243 := (cod_it ⟨a, b, c, d, ha, hb, hc, hd, rfl⟩).2
theorem tryL_srt {r : Nat → Int64} {F : Nat} {pa my : Nat → Int32} {f p : Nat} {a b c d : Int32} (hd : sOK r F pa my) (hf : f < F) (hp : p < 6) : srt (tryL r pa my f p a b c d) (rgB r pa f p) := (srt_cut _ _ (rg_le hd hf hp).1).1
theorem tryV_e {r : Nat → Int64} {pa my : Nat → Int32} {f p : Nat} {a b c d : Int32} : tryV r pa my f p a b c d = vdN (tryL r pa my f p a b c d) (mkL r f p) := rfl
section
variable {r : Nat → Int64} {F p f : Nat} {pa my : Nat → Int32} {x y a b c d : Int32}
theorem tr_n (h : ix x (rP r) = none ∨ ix y F = none) : vTries r F pa my x y a b c d = -1 := by
  unfold vTries
  rcases h with h | h
  · cases ix y F with
    | none => rfl
    | some f => rw [h]
  · rw [h]
theorem tr_e (hp : p < rP r) (h6 : rP r ≤ 6) (hf : f < F) (h4 : F ≤ 4) (h : rM r f p = 0) : vTries r F pa my (nI p) (nI f) a b c d = -1 := by
  unfold vTries
  rw [ix_nI hf (by omega), ix_nI hp (by omega)]
  exact if_neg (by omega)
theorem tr_i (hp : p < rP r) (h6 : rP r ≤ 6) (hf : f < F) (h4 : F ≤ 4) (h : 0 < rM r f p) (hi : itK r a = false ∨ itK r b = false ∨ itK r c = false ∨ itK r d = false) : vTries r F pa my (nI p) (nI f) a b c d = -1 := by
  unfold vTries
  rw [ix_nI hf (by omega), ix_nI hp (by omega)]
  refine (if_pos h).trans ?_
  rcases hi with hi | hi | hi | hi <;> rw [hi] <;> simp
theorem tr_s (hp : p < rP r) (h6 : rP r ≤ 6) (hf : f < F) (h4 : F ≤ 4) (h : 0 < rM r f p) (ha : itK r a = true) (hb : itK r b = true) (hc : itK r c = true) (hd : itK r d = true) (hn : b = -1 ∧ ¬ c = -1) : vTries r F pa my (nI p) (nI f) a b c d = -1 := by
  unfold vTries
  rw [ix_nI hf (by omega), ix_nI hp (by omega)]
  refine (if_pos h).trans ?_
  rw [if_pos ha, if_pos hb, if_pos hc, if_pos hd, if_pos hn]
theorem tr_v (hp : p < rP r) (h6 : rP r ≤ 6) (hf : f < F) (h4 : F ≤ 4) (h : 0 < rM r f p) (ha : itK r a = true) (hb : itK r b = true) (hc : itK r c = true) (hd : itK r d = true) (hn : ¬ (b = -1 ∧ ¬ c = -1)) : vTries r F pa my (nI p) (nI f) a b c d = nI (tryV r pa my f p a b c d) := by
  unfold vTries
  rw [ix_nI hf (by omega), ix_nI hp (by omega)]
  refine (if_pos h).trans ?_
  rw [if_pos ha, if_pos hb, if_pos hc, if_pos hd, if_neg hn]
end
set_option maxRecDepth 20000 in
theorem pX11_tries {h : mH} {Q : Option Value → mH → Prop} {ow : Nat → Nat} {F fq o1 d1 u1 : Nat} {pa my : Nat → Int32} {r : Nat → Int64} {pl : Nat → Int64} {gb ge : Int32} {gs gn : Int64} {gf gt : Int32} {x y fa ne se so : Int32} (e9 : eS ow h F pa my r fq o1 d1 u1) (hd : sOK r F pa my) (zg : zG ow h pl gb ge gs gn gf gt) (hq : ∀ h', cFr [1] 0 ow h ow h' → (∃ pl gb ge gs gn gf gt, zG ow h' pl gb ge gs gn gf gt) → Q (some (.int (vTries r F pa my x y fa ne se so))) h') : Wp mX11_tries 4 95 0 [some (.ref 0), some (.int x), some (.int y), some (.int fa), some (.int ne), some (.int se), some (.int so), none, none] [] h Q := by
  have hP6 := hd.w.1.2
  have hF4 := hd.f4
  have hT40 : ∀ p, p < 6 → rT r p ≤ 40 := fun p hp => (hd.w.2.1 p hp).2
  have hz : ∀ h' z, cFr [1] 0 ow h ow h' → (∃ pl gb ge gs gn gf gt, zG ow h' pl gb ge gs gn gf gt) → vTries r F pa my x y fa ne se so = z → Q (some (.int z)) h' := fun h' z f1 g e => e ▸ hq h' f1 g
  refine wp_aload_n dX11_tries_0 rfl rfl ?_
  refine wp_iload_n dX11_tries_1 rfl rfl ?_
  refine wp_iload_n dX11_tries_2 rfl rfl ?_
  refine wp_cV2 3 63 [some _, some _, some _] dX11_tries_3 tX11_known rfl (by decide) nX11_known vX11_known lX11_276 ⟨by decide, by decide⟩ (Nat.le_of_ble_eq_true rfl) e9.oo (Nat.le_of_ble_eq_true rfl) rfl ?_
  refine pX11_known e9 hd (fun p1 f1 hp1 hf1 ep1 ef1 => ?_) (fun xn1 => ?_)
  · subst ep1
    subst ef1
    intro _ _
    refine wp_if_eq dX11_tries_6 (fun q => absurd q (by decide +kernel)) (fun _ => ?_)
    refine wp_aload_n dX11_tries_9 rfl rfl ?_
    refine wp_getR dX11_tries_10 lX11_34 rfl e9.oo e9.r6 ?_
    refine wp_cV0 2 43 [some _] dX11_tries_13 tX3_now rfl (by decide) nX3_now vX3_now lX11_101 ⟨by decide, by decide⟩ (Nat.le_of_ble_eq_true rfl) e9.hh.o (Nat.le_of_ble_eq_true rfl) rfl ?_
    refine pX3_now e9.hh e9.kb e9.od.1 e9.od.2 ?_
    intro _ _
    refine wp_iload_n dX11_tries_16 rfl rfl ?_
    refine wp_iload_n dX11_tries_17 rfl rfl ?_
    refine wp_cV2 1 21 [some _, some _, some _] dX11_tries_18 tX8_isExample rfl (by decide) nX8_isExample vX8_isExample lX11_230 ⟨by decide, by decide⟩ (Nat.le_of_ble_eq_true rfl) e9.st.oo (Nat.le_of_ble_eq_true rfl) rfl ?_
    refine pX8_isExample e9.st hd (by omega) (fun p2 hp2 ep2 hm2 => ?_) (fun hn2 => ?_)
    · have ep2 := (nI_eq (by omega) (by omega)).mp ep2
      subst ep2
      intro _ _
      refine wp_if_ne dX11_tries_21 (fun _ => ?_) (fun q => absurd q (by decide +kernel))
      refine wp_aload_n dX11_tries_26 rfl rfl ?_
      refine wp_iload_n dX11_tries_27 rfl rfl ?_
      refine wp_cV1 3 63 [some _, some _] dX11_tries_28 tX11_isItem rfl (by decide) nX11_isItem vX11_isItem lX11_287 ⟨by decide, by decide⟩ (Nat.le_of_ble_eq_true rfl) e9.oo (Nat.le_of_ble_eq_true rfl) rfl ?_
      refine pX11_isItem e9 hd (fun ik3 => ?_) (fun ik3 => ?_)
      · intro _ _
        refine wp_if_eq dX11_tries_31 (fun q => absurd q (by decide +kernel)) (fun _ => ?_)
        refine wp_aload_n dX11_tries_34 rfl rfl ?_
        refine wp_iload dX11_tries_35 rfl ?_
        refine wp_cV1 3 63 [some _, some _] dX11_tries_37 tX11_isItem rfl (by decide) nX11_isItem vX11_isItem lX11_287 ⟨by decide, by decide⟩ (Nat.le_of_ble_eq_true rfl) e9.oo (Nat.le_of_ble_eq_true rfl) rfl ?_
        refine pX11_isItem e9 hd (fun ik4 => ?_) (fun ik4 => ?_)
        · intro _ _
          refine wp_if_eq dX11_tries_40 (fun q => absurd q (by decide +kernel)) (fun _ => ?_)
          refine wp_aload_n dX11_tries_43 rfl rfl ?_
          refine wp_iload dX11_tries_44 rfl ?_
          refine wp_cV1 3 63 [some _, some _] dX11_tries_46 tX11_isItem rfl (by decide) nX11_isItem vX11_isItem lX11_287 ⟨by decide, by decide⟩ (Nat.le_of_ble_eq_true rfl) e9.oo (Nat.le_of_ble_eq_true rfl) rfl ?_
          refine pX11_isItem e9 hd (fun ik5 => ?_) (fun ik5 => ?_)
          · intro _ _
            refine wp_if_eq dX11_tries_49 (fun q => absurd q (by decide +kernel)) (fun _ => ?_)
            refine wp_aload_n dX11_tries_52 rfl rfl ?_
            refine wp_iload dX11_tries_53 rfl ?_
            refine wp_cV1 3 63 [some _, some _] dX11_tries_55 tX11_isItem rfl (by decide) nX11_isItem vX11_isItem lX11_287 ⟨by decide, by decide⟩ (Nat.le_of_ble_eq_true rfl) e9.oo (Nat.le_of_ble_eq_true rfl) rfl ?_
            refine pX11_isItem e9 hd (fun ik6 => ?_) (fun ik6 => ?_)
            · intro _ _
              refine wp_if_ne dX11_tries_58 (fun _ => ?_) (fun q => absurd q (by decide +kernel))
              refine wp_iload dX11_tries_63 rfl ?_
              refine wp_iconst (v := (-1)) dX11_tries_65 (by decide +kernel) ?_
              refine wp_icmp_ne dX11_tries_66 (fun c7 => ?_) (fun c7 => ?_)
              · refine wp_aload_n dX11_tries_77 rfl rfl ?_
                refine wp_getR dX11_tries_78 lX11_34 rfl e9.oo e9.r6 ?_
                refine wp_cV0 2 43 [some _] dX11_tries_81 tX3_now rfl (by decide) nX3_now vX3_now lX11_101 ⟨by decide, by decide⟩ (Nat.le_of_ble_eq_true rfl) e9.hh.o (Nat.le_of_ble_eq_true rfl) rfl ?_
                refine pX3_now e9.hh e9.kb e9.od.1 e9.od.2 ?_
                intro _ _
                refine wp_astore (ls1 := [_, _, _, _, _, _, _, some _, _]) dX11_tries_84 (by decide) rfl ?_
                refine wp_iload_n dX11_tries_86 rfl rfl ?_
                refine wp_iload_n dX11_tries_87 rfl rfl ?_
                refine wp_cS2 0 0 [some _, some _] dX11_tries_88 tX11_spotOf sX11_spotOf lX11_198 ⟨by decide, by decide⟩ (Nat.le_of_ble_eq_true rfl) (Nat.le_of_ble_eq_true rfl) rfl ?_
                refine pX11_spotOf ?_
                intro _ _
                refine wp_istore (ls1 := [_, _, _, _, _, _, _, _, some _]) dX11_tries_91 (by decide) rfl ?_
                refine wp_aload_n dX11_tries_93 rfl rfl ?_
                refine wp_getR dX11_tries_94 lX11_60 rfl e9.oo e9.r10 ?_
                refine wp_aload dX11_tries_97 rfl ?_
                refine wp_iload_n dX11_tries_99 rfl rfl ?_
                refine wp_aload_n dX11_tries_100 rfl rfl ?_
                refine wp_getR dX11_tries_101 lX11_20 rfl e9.oo e9.f4 ?_
                refine wp_getR dX11_tries_104 lX11_147 rfl e9.fl.oo e9.fl.r1 ?_
                refine wp_iload_n dX11_tries_107 rfl rfl ?_
                refine wp_ialdV dX11_tries_108 e9.fl.a1 rfl ⟨by omega, by omega⟩ (e9.fl.c1 (by omega)) ?_
                refine wp_cV3 2 49 [some _, some _, some _, some _, none, none] dX11_tries_109 tX2_layMarked rfl (by decide) nX2_layMarked vX2_layMarked lX11_290 ⟨by decide, by decide⟩ (Nat.le_of_ble_eq_true rfl) zg.o (Nat.le_of_ble_eq_true rfl) rfl ?_
                refine pX2_layMarked zg e9.st (by first | exact Nat.le_add_right _ _ | omega) hd (by omega) (by omega) (fun hh7 pl7 f7 zg_7 gp7 => ?_)
                intro _ _
                have e9_7 := e9.fr f7 (by decide)
                obtain ⟨cfa, hfa, efa⟩ := itK_c hd.w ik3
                obtain ⟨cne, hne, ene⟩ := itK_c hd.w ik4
                obtain ⟨cse, hse, ese⟩ := itK_c hd.w ik5
                obtain ⟨cso, hso, eso⟩ := itK_c hd.w ik6
                subst efa ene ese eso
                refine wp_aload_n dX11_tries_112 rfl rfl ?_
                refine wp_getR dX11_tries_113 lX11_60 rfl e9_7.oo e9_7.r10 ?_
                refine wp_iload_n dX11_tries_116 rfl rfl ?_
                refine wp_iload dX11_tries_117 rfl ?_
                refine wp_iload dX11_tries_119 rfl ?_
                refine wp_iload dX11_tries_121 rfl ?_
                refine wp_cS4 1 20 [some _, some _, some _, some _, none, none] dX11_tries_123 tX11_ruleOf sX11_ruleOf lX11_294 ⟨by decide, by decide⟩ (Nat.le_of_ble_eq_true rfl) (Nat.le_of_ble_eq_true rfl) rfl ?_
                refine pX11_ruleOf (by omega) (by omega) (by omega) (by omega) ?_
                intro _ _
                refine wp_aload_n dX11_tries_126 rfl rfl ?_
                refine wp_getR dX11_tries_127 lX11_20 rfl e9_7.oo e9_7.f4 ?_
                refine wp_getR dX11_tries_130 lX11_150 rfl e9_7.fl.oo e9_7.fl.r2 ?_
                refine wp_iload_n dX11_tries_133 rfl rfl ?_
                refine wp_zaldV dX11_tries_134 e9_7.fl.a2 rfl ⟨by omega, by omega⟩ (e9_7.fl.c2 (by omega)) ?_
                refine wp_cV2 3 70 [some _, some _, none, some _, none, none] dX11_tries_135 tX2_slice rfl (by decide) nX2_slice vX2_slice lX11_298 ⟨by decide, by decide⟩ (Nat.le_of_ble_eq_true rfl) zg_7.o (Nat.le_of_ble_eq_true rfl) rfl ?_
                have hrg := rg_le hd (show f1 < F by omega) (show p1 < 6 by omega)
                have hrl := row1 (k := rT r p1) (by omega)
                have hit := kN_it (a := cfa) (b := cne) (c := cse) (d := cso) (by omega) (by omega) (by omega) (by omega)
                refine pX2_slice zg_7 gp7 (by omega) (by omega) (kN_lt (by omega) (by omega) (by omega) (by omega)) (kN_le (by omega) (by omega) (by omega) (by omega)) hrg.1 (hd.my f1 (by omega)) (fun hh8 x8 y8 f8 zg_8 => ?_)
                intro _ _
                rw [show cutK (pmR r p1 (-1)) (rgB r pa f1 p1) (kN cfa cne cse cso) (mzN (my f1)) (rgA r pa f1 p1) = tryL r pa my f1 p1 (itm cfa) (itm cne) (itm cse) (itm cso) by unfold cutK; rw [hit.1, hit.2.1, hit.2.2.1, hit.2.2.2]; rfl] at zg_8
                have e9_8 := e9_7.fr f8 (by decide)
                refine wp_aload_n dX11_tries_138 rfl rfl ?_
                refine wp_getR dX11_tries_139 lX11_60 rfl e9_8.oo e9_8.r10 ?_
                refine wp_aload dX11_tries_142 rfl ?_
                refine wp_getR dX11_tries_144 lX11_202 rfl e9_8.st.oo e9_8.st.r2 ?_
                refine wp_iload dX11_tries_147 rfl ?_
                refine wp_laldV dX11_tries_149 e9_8.st.a2 rfl ⟨by omega, by omega⟩ (e9_8.st.c2 (by omega) (by omega)) ?_
                refine wp_aload dX11_tries_150 rfl ?_
                refine wp_getR dX11_tries_152 lX11_205 rfl e9_8.st.oo e9_8.st.r3 ?_
                refine wp_iload dX11_tries_155 rfl ?_
                refine wp_laldV dX11_tries_157 e9_8.st.a3 rfl ⟨by omega, by omega⟩ (e9_8.st.c3 (by omega) (by omega)) ?_
                refine wp_cV2 0 0 [some _, some _, none, some _, none] dX11_tries_158 tX2_verdict rfl (by decide) nX2_verdict vX2_verdict lX11_302 ⟨by decide, by decide⟩ (Nat.le_of_ble_eq_true rfl) zg_8.o (Nat.le_of_ble_eq_true rfl) rfl ?_
                refine pX2_verdict zg_8 (tryL_srt hd (by omega) (by omega)) (by omega) (srt_mk hd (by omega) (by omega)) (by omega) ?_
                intro _ _
                refine wp_ireturn dX11_tries_161 rfl ?_
                exact hz _ _ ((f7.up (by decide) (Nat.le_refl _)).tr (f8.up (by decide) (Nat.le_refl _))) ⟨_, _, _, _, _, _, _, zg_8⟩ ((tr_v (by omega) hP6 (by omega) hF4 hm2 ik3 ik4 ik5 ik6 (fun z => by first | exact absurd z.1 (by assumption) | exact absurd (by assumption) z.2)))
              · refine wp_iload dX11_tries_69 rfl ?_
                refine wp_iconst (v := (-1)) dX11_tries_71 (by decide +kernel) ?_
                refine wp_icmp_eq dX11_tries_72 (fun c8 => ?_) (fun c8 => ?_)
                · refine wp_aload_n dX11_tries_77 rfl rfl ?_
                  refine wp_getR dX11_tries_78 lX11_34 rfl e9.oo e9.r6 ?_
                  refine wp_cV0 2 43 [some _] dX11_tries_81 tX3_now rfl (by decide) nX3_now vX3_now lX11_101 ⟨by decide, by decide⟩ (Nat.le_of_ble_eq_true rfl) e9.hh.o (Nat.le_of_ble_eq_true rfl) rfl ?_
                  refine pX3_now e9.hh e9.kb e9.od.1 e9.od.2 ?_
                  intro _ _
                  refine wp_astore (ls1 := [_, _, _, _, _, _, _, some _, _]) dX11_tries_84 (by decide) rfl ?_
                  refine wp_iload_n dX11_tries_86 rfl rfl ?_
                  refine wp_iload_n dX11_tries_87 rfl rfl ?_
                  refine wp_cS2 0 0 [some _, some _] dX11_tries_88 tX11_spotOf sX11_spotOf lX11_198 ⟨by decide, by decide⟩ (Nat.le_of_ble_eq_true rfl) (Nat.le_of_ble_eq_true rfl) rfl ?_
                  refine pX11_spotOf ?_
                  intro _ _
                  refine wp_istore (ls1 := [_, _, _, _, _, _, _, _, some _]) dX11_tries_91 (by decide) rfl ?_
                  refine wp_aload_n dX11_tries_93 rfl rfl ?_
                  refine wp_getR dX11_tries_94 lX11_60 rfl e9.oo e9.r10 ?_
                  refine wp_aload dX11_tries_97 rfl ?_
                  refine wp_iload_n dX11_tries_99 rfl rfl ?_
                  refine wp_aload_n dX11_tries_100 rfl rfl ?_
                  refine wp_getR dX11_tries_101 lX11_20 rfl e9.oo e9.f4 ?_
                  refine wp_getR dX11_tries_104 lX11_147 rfl e9.fl.oo e9.fl.r1 ?_
                  refine wp_iload_n dX11_tries_107 rfl rfl ?_
                  refine wp_ialdV dX11_tries_108 e9.fl.a1 rfl ⟨by omega, by omega⟩ (e9.fl.c1 (by omega)) ?_
                  refine wp_cV3 2 49 [some _, some _, some _, some _, none, none] dX11_tries_109 tX2_layMarked rfl (by decide) nX2_layMarked vX2_layMarked lX11_290 ⟨by decide, by decide⟩ (Nat.le_of_ble_eq_true rfl) zg.o (Nat.le_of_ble_eq_true rfl) rfl ?_
                  refine pX2_layMarked zg e9.st (by first | exact Nat.le_add_right _ _ | omega) hd (by omega) (by omega) (fun hh9 pl9 f9 zg_9 gp9 => ?_)
                  intro _ _
                  have e9_9 := e9.fr f9 (by decide)
                  obtain ⟨cfa, hfa, efa⟩ := itK_c hd.w ik3
                  obtain ⟨cne, hne, ene⟩ := itK_c hd.w ik4
                  obtain ⟨cse, hse, ese⟩ := itK_c hd.w ik5
                  obtain ⟨cso, hso, eso⟩ := itK_c hd.w ik6
                  subst efa ene ese eso
                  refine wp_aload_n dX11_tries_112 rfl rfl ?_
                  refine wp_getR dX11_tries_113 lX11_60 rfl e9_9.oo e9_9.r10 ?_
                  refine wp_iload_n dX11_tries_116 rfl rfl ?_
                  refine wp_iload dX11_tries_117 rfl ?_
                  refine wp_iload dX11_tries_119 rfl ?_
                  refine wp_iload dX11_tries_121 rfl ?_
                  refine wp_cS4 1 20 [some _, some _, some _, some _, none, none] dX11_tries_123 tX11_ruleOf sX11_ruleOf lX11_294 ⟨by decide, by decide⟩ (Nat.le_of_ble_eq_true rfl) (Nat.le_of_ble_eq_true rfl) rfl ?_
                  refine pX11_ruleOf (by omega) (by omega) (by omega) (by omega) ?_
                  intro _ _
                  refine wp_aload_n dX11_tries_126 rfl rfl ?_
                  refine wp_getR dX11_tries_127 lX11_20 rfl e9_9.oo e9_9.f4 ?_
                  refine wp_getR dX11_tries_130 lX11_150 rfl e9_9.fl.oo e9_9.fl.r2 ?_
                  refine wp_iload_n dX11_tries_133 rfl rfl ?_
                  refine wp_zaldV dX11_tries_134 e9_9.fl.a2 rfl ⟨by omega, by omega⟩ (e9_9.fl.c2 (by omega)) ?_
                  refine wp_cV2 3 70 [some _, some _, none, some _, none, none] dX11_tries_135 tX2_slice rfl (by decide) nX2_slice vX2_slice lX11_298 ⟨by decide, by decide⟩ (Nat.le_of_ble_eq_true rfl) zg_9.o (Nat.le_of_ble_eq_true rfl) rfl ?_
                  have hrg := rg_le hd (show f1 < F by omega) (show p1 < 6 by omega)
                  have hrl := row1 (k := rT r p1) (by omega)
                  have hit := kN_it (a := cfa) (b := cne) (c := cse) (d := cso) (by omega) (by omega) (by omega) (by omega)
                  refine pX2_slice zg_9 gp9 (by omega) (by omega) (kN_lt (by omega) (by omega) (by omega) (by omega)) (kN_le (by omega) (by omega) (by omega) (by omega)) hrg.1 (hd.my f1 (by omega)) (fun hh10 x10 y10 f10 zg_10 => ?_)
                  intro _ _
                  rw [show cutK (pmR r p1 (-1)) (rgB r pa f1 p1) (kN cfa cne cse cso) (mzN (my f1)) (rgA r pa f1 p1) = tryL r pa my f1 p1 (itm cfa) (itm cne) (itm cse) (itm cso) by unfold cutK; rw [hit.1, hit.2.1, hit.2.2.1, hit.2.2.2]; rfl] at zg_10
                  have e9_10 := e9_9.fr f10 (by decide)
                  refine wp_aload_n dX11_tries_138 rfl rfl ?_
                  refine wp_getR dX11_tries_139 lX11_60 rfl e9_10.oo e9_10.r10 ?_
                  refine wp_aload dX11_tries_142 rfl ?_
                  refine wp_getR dX11_tries_144 lX11_202 rfl e9_10.st.oo e9_10.st.r2 ?_
                  refine wp_iload dX11_tries_147 rfl ?_
                  refine wp_laldV dX11_tries_149 e9_10.st.a2 rfl ⟨by omega, by omega⟩ (e9_10.st.c2 (by omega) (by omega)) ?_
                  refine wp_aload dX11_tries_150 rfl ?_
                  refine wp_getR dX11_tries_152 lX11_205 rfl e9_10.st.oo e9_10.st.r3 ?_
                  refine wp_iload dX11_tries_155 rfl ?_
                  refine wp_laldV dX11_tries_157 e9_10.st.a3 rfl ⟨by omega, by omega⟩ (e9_10.st.c3 (by omega) (by omega)) ?_
                  refine wp_cV2 0 0 [some _, some _, none, some _, none] dX11_tries_158 tX2_verdict rfl (by decide) nX2_verdict vX2_verdict lX11_302 ⟨by decide, by decide⟩ (Nat.le_of_ble_eq_true rfl) zg_10.o (Nat.le_of_ble_eq_true rfl) rfl ?_
                  refine pX2_verdict zg_10 (tryL_srt hd (by omega) (by omega)) (by omega) (srt_mk hd (by omega) (by omega)) (by omega) ?_
                  intro _ _
                  refine wp_ireturn dX11_tries_161 rfl ?_
                  exact hz _ _ ((f9.up (by decide) (Nat.le_refl _)).tr (f10.up (by decide) (Nat.le_refl _))) ⟨_, _, _, _, _, _, _, zg_10⟩ ((tr_v (by omega) hP6 (by omega) hF4 hm2 ik3 ik4 ik5 ik6 (fun z => by first | exact absurd z.1 (by assumption) | exact absurd (by assumption) z.2)))
                · refine wp_iconst (v := (-1)) dX11_tries_75 (by decide +kernel) ?_
                  refine wp_ireturn dX11_tries_76 rfl ?_
                  exact hz _ _ cFr.rf ⟨_, _, _, _, _, _, _, zg⟩ (tr_s (by omega) hP6 (by omega) hF4 hm2 ik3 ik4 ik5 ik6 ⟨by assumption, by assumption⟩)
            · intro _ _
              refine wp_if_ne dX11_tries_58 (fun q => absurd q (by decide +kernel)) (fun _ => ?_)
              refine wp_iconst (v := (-1)) dX11_tries_61 (by decide +kernel) ?_
              refine wp_ireturn dX11_tries_62 rfl ?_
              exact hz _ _ cFr.rf ⟨_, _, _, _, _, _, _, zg⟩ (tr_i (by omega) hP6 (by omega) hF4 hm2 (Or.inr (Or.inr (Or.inr ik6))))
          · intro _ _
            refine wp_if_eq dX11_tries_49 (fun _ => ?_) (fun q => absurd q (by decide +kernel))
            refine wp_iconst (v := (-1)) dX11_tries_61 (by decide +kernel) ?_
            refine wp_ireturn dX11_tries_62 rfl ?_
            exact hz _ _ cFr.rf ⟨_, _, _, _, _, _, _, zg⟩ (tr_i (by omega) hP6 (by omega) hF4 hm2 (Or.inr (Or.inr (Or.inl ik5))))
        · intro _ _
          refine wp_if_eq dX11_tries_40 (fun _ => ?_) (fun q => absurd q (by decide +kernel))
          refine wp_iconst (v := (-1)) dX11_tries_61 (by decide +kernel) ?_
          refine wp_ireturn dX11_tries_62 rfl ?_
          exact hz _ _ cFr.rf ⟨_, _, _, _, _, _, _, zg⟩ (tr_i (by omega) hP6 (by omega) hF4 hm2 (Or.inr (Or.inl ik4)))
      · intro _ _
        refine wp_if_eq dX11_tries_31 (fun _ => ?_) (fun q => absurd q (by decide +kernel))
        refine wp_iconst (v := (-1)) dX11_tries_61 (by decide +kernel) ?_
        refine wp_ireturn dX11_tries_62 rfl ?_
        exact hz _ _ cFr.rf ⟨_, _, _, _, _, _, _, zg⟩ (tr_i (by omega) hP6 (by omega) hF4 hm2 (Or.inl ik3))
    · have hn2 := ex_no (by omega) (by omega) hn2
      intro _ _
      refine wp_if_ne dX11_tries_21 (fun q => absurd q (by decide +kernel)) (fun _ => ?_)
      refine wp_iconst (v := (-1)) dX11_tries_24 (by decide +kernel) ?_
      refine wp_ireturn dX11_tries_25 rfl ?_
      exact hz _ _ cFr.rf ⟨_, _, _, _, _, _, _, zg⟩ (tr_e (by omega) hP6 (by omega) hF4 hn2)
  · intro _ _
    refine wp_if_eq dX11_tries_6 (fun _ => ?_) (fun q => absurd q (by decide +kernel))
    refine wp_iconst (v := (-1)) dX11_tries_24 (by decide +kernel) ?_
    refine wp_ireturn dX11_tries_25 rfl ?_
    exact hz _ _ cFr.rf ⟨_, _, _, _, _, _, _, zg⟩ (tr_n xn1)
theorem cb_srt {r : Nat → Int64} {my : Nat → Int32} {f a e : Nat} {P : Int32 → Nat → Bool} (ha : a ≤ e) : srt (cuL (cbX r my f P a e)) e := by
  cases z : cbX r my f P a e with
  | none => exact srt_nil _
  | some x =>
    show srt x.2 e
    rw [(cbX_some z).2.1]
    exact cbL_srt ha
theorem vd_lt (l m : List (Nat × Nat)) : vdN l m < 3 := by
  unfold vdN
  split
  · decide
  · split <;> decide
theorem vd_rg {r : Nat → Int64} {pa my : Nat → Int32} {f p : Nat} (h : 0 < rM r f p) : vdN (cuL (cbX r my f (pmR r p (-1)) (rgA r pa f p) (rgB r pa f p))) (mkL r f p) = 1 ↔ rgtB r pa my f p = true := by
  unfold vdN rgtB
  rw [decide_eq_true_iff]
  constructor
  · intro z
    refine ⟨h, ?_⟩
    split at z
    · cases z
    · split at z
      · assumption
      · cases z
  · intro z
    rw [if_neg (fun w => by
      rw [w] at z
      have h1 := congrArg List.length z.2
      rw [mkL_len] at h1
      have h1 : 0 = rM r f p := h1
      omega), if_pos z.2]
theorem rg_no {r : Nat → Int64} {pa my : Nat → Int32} {f p : Nat} (h : rM r f p = 0) : rgtB r pa my f p = false := decide_eq_false (fun z => by omega)
set_option maxRecDepth 20000 in
theorem pX11_right {h : mH} {Q : Option Value → mH → Prop} {ow : Nat → Nat} {F fa o1 d1 u1 : Nat} {pa my : Nat → Int32} {r : Nat → Int64} {pl : Nat → Int64} {gb ge : Int32} {gs gn : Int64} {gf gt : Int32} {y : Int32} (e9 : eS ow h F pa my r fa o1 d1 u1) (hd : sOK r F pa my) (zg : zG ow h pl gb ge gs gn gf gt) (hq : ∀ h', cFr [1] 0 ow h ow h' → (∃ pl gb ge gs gn gf gt, zG ow h' pl gb ge gs gn gf gt) → Q (some (.int (spRight r F pa my y))) h') : Wp mX11_right 5 119 0 [some (.ref 0), some (.int y), none, none, none, none, none] [] h Q := by
  have hP6 := hd.w.1.2
  have hF4 := hd.f4
  have hloop : ∀ (f : Nat) (qa : Nat) (hf : f < F) (hl9 : r (655 + 70 * f) = 1) (hz : ∀ h' z, cFr [1] 0 ow h ow h' → (∃ pl gb ge gs gn gf gt, zG ow h' pl gb ge gs gn gf gt) → spRight r F pa my (nI f) = z → Q (some (.int z)) h') (t9 : Nat) (p : Nat) (x6 : Option Value) (pl1 : Nat → Int64) (gb1 : Int32) (ge1 : Int32) (gs1 : Int64) (gn1 : Int64) (gf1 : Int32) (gt1 : Int32) (h1 : mH), (p ≤ rP r) → (cFr [1] 0 ow h ow h1) → (eS ow h1 F pa my r fa o1 d1 u1) → (zG ow h1 pl1 gb1 ge1 gs1 gn1 gf1 gt1) → (lnR ow h1 qa r f) → (rP r < p + t9) → Wp mX11_right 5 119 40 [some (.ref 0), some (.int (nI f)), some (.ref (nowA o1 d1)), some (.ref qa), some (.int (nI (cntB (rgtB r pa my f) p))), some (.int (nI p)), x6] [] h1 Q := by
    intro f qa hf hl9 hz t9
    induction t9 with
    | zero => intros; omega
    | succ t9 ih =>
      intro p x6 pl1 gb1 ge1 gs1 gn1 gf1 gt1 h1 hp hf1 e1 zg1 ln1 hmz
      refine wp_iload dX11_right_40 rfl ?_
      refine wp_aload_n dX11_right_42 rfl rfl ?_
      refine wp_getIV dX11_right_43 lX11_123 rfl e1.st.oo e1.st.f4 ?_
      refine wp_icmp_geN dX11_right_46 rfl rfl ⟨by omega, by omega⟩ (fun c2 => ?_) (fun c2 => ?_)
      · refine wp_iload dX11_right_138 rfl ?_
        refine wp_ireturn dX11_right_140 rfl ?_
        have ep9 : p = rP r := by omega
        subst ep9
        exact hz _ _ (hf1.up (by decide) (Nat.le_refl _)) ⟨_, _, _, _, _, _, _, zg1⟩ (by unfold spRight; rw [ix_nI hf (by omega)]; exact if_pos hl9)
      · have hT40p := (hd.w.2.1 p (by omega)).2
        refine wp_aload_n dX11_right_49 rfl rfl ?_
        refine wp_iload dX11_right_50 rfl ?_
        refine wp_iload_n dX11_right_52 rfl rfl ?_
        refine wp_cV2 1 21 [some _, some _, some _] dX11_right_53 tX8_isExample rfl (by decide) nX8_isExample vX8_isExample lX11_230 ⟨by decide, by decide⟩ (Nat.le_of_ble_eq_true rfl) e1.st.oo (Nat.le_of_ble_eq_true rfl) rfl ?_
        refine pX8_isExample e1.st hd (by omega) (fun p1 hp1 ep1 hm1 => ?_) (fun hn1 => ?_)
        · have ep1 := (nI_eq (by omega) (by omega)).mp ep1
          subst ep1
          intro _ _
          refine wp_if_eq dX11_right_56 (fun q => absurd q (by decide +kernel)) (fun _ => ?_)
          refine wp_iload dX11_right_59 rfl ?_
          refine wp_iload_n dX11_right_61 rfl rfl ?_
          refine wp_cS2 0 0 [some _, some _] dX11_right_62 tX11_spotOf sX11_spotOf lX11_198 ⟨by decide, by decide⟩ (Nat.le_of_ble_eq_true rfl) (Nat.le_of_ble_eq_true rfl) rfl ?_
          refine pX11_spotOf ?_
          intro _ _
          refine wp_istore (ls1 := [_, _, _, _, _, _, some _]) dX11_right_65 (by decide) rfl ?_
          refine wp_aload_n dX11_right_67 rfl rfl ?_
          refine wp_getR dX11_right_68 lX11_60 rfl e1.oo e1.r10 ?_
          refine wp_aload_n dX11_right_71 rfl rfl ?_
          refine wp_iload dX11_right_72 rfl ?_
          refine wp_aload_n dX11_right_74 rfl rfl ?_
          refine wp_getR dX11_right_75 lX11_20 rfl e1.oo e1.f4 ?_
          refine wp_getR dX11_right_78 lX11_147 rfl e1.fl.oo e1.fl.r1 ?_
          refine wp_iload_n dX11_right_81 rfl rfl ?_
          refine wp_ialdV dX11_right_82 e1.fl.a1 rfl ⟨by omega, by omega⟩ (e1.fl.c1 (by omega)) ?_
          refine wp_cV3 2 49 [some _, some _, some _, some _, none, none] dX11_right_83 tX2_layMarked rfl (by decide) nX2_layMarked vX2_layMarked lX11_290 ⟨by decide, by decide⟩ (Nat.le_of_ble_eq_true rfl) zg1.o (Nat.le_of_ble_eq_true rfl) rfl ?_
          refine pX2_layMarked zg1 e1.st (by first | exact Nat.le_add_right _ _ | omega) hd (by omega) (by omega) (fun hh2 pl2 f2 zg_2 gp2 => ?_)
          intro _ _
          have e1_2 := e1.fr f2 (by decide)
          have ln1_2 := ln1.fr f2 (rnS (by omega) rn0)
          refine wp_aload_n dX11_right_86 rfl rfl ?_
          refine wp_getR dX11_right_87 lX11_60 rfl e1_2.oo e1_2.r10 ?_
          refine wp_aload_n dX11_right_90 rfl rfl ?_
          refine wp_aload_n dX11_right_91 rfl rfl ?_
          refine wp_getR dX11_right_92 lX11_20 rfl e1_2.oo e1_2.f4 ?_
          refine wp_getR dX11_right_95 lX11_150 rfl e1_2.fl.oo e1_2.fl.r2 ?_
          refine wp_iload_n dX11_right_98 rfl rfl ?_
          refine wp_zaldV dX11_right_99 e1_2.fl.a2 rfl ⟨by omega, by omega⟩ (e1_2.fl.c2 (by omega)) ?_
          refine wp_cV2 4 95 [some _, some _, some _, none, none] dX11_right_100 tX2_sliceBy rfl (by decide) nX2_sliceBy vX2_sliceBy lX11_368 ⟨by decide, by decide⟩ (Nat.le_of_ble_eq_true rfl) zg_2.o (Nat.le_of_ble_eq_true rfl) rfl ?_
          have hrg := rg_le hd hf (show p < 6 by omega)
          have hrl := row1 (k := rT r p) (by omega)
          refine pX2_sliceBy zg_2 gp2 (show rgB r pa f p ≤ (rowL (-1) (rT r p)).length by omega) (by omega) hrg.1 hd hf ln1_2 (fun hh3 x3 y3 f3 zg_3 => ?_)
          intro _ _
          have e1_3 := e1_2.fr f3 (by decide)
          have ln1_3 := ln1_2.fr f3 (rnS (by omega) rn0)
          refine wp_pop dX11_right_103 rfl ?_
          refine wp_aload_n dX11_right_104 rfl rfl ?_
          refine wp_getR dX11_right_105 lX11_60 rfl e1_3.oo e1_3.r10 ?_
          refine wp_aload_n dX11_right_108 rfl rfl ?_
          refine wp_getR dX11_right_109 lX11_202 rfl e1_3.st.oo e1_3.st.r2 ?_
          refine wp_iload dX11_right_112 rfl ?_
          refine wp_laldV dX11_right_114 e1_3.st.a2 rfl ⟨by omega, by omega⟩ (e1_3.st.c2 (by omega) (by omega)) ?_
          refine wp_aload_n dX11_right_115 rfl rfl ?_
          refine wp_getR dX11_right_116 lX11_205 rfl e1_3.st.oo e1_3.st.r3 ?_
          refine wp_iload dX11_right_119 rfl ?_
          refine wp_laldV dX11_right_121 e1_3.st.a3 rfl ⟨by omega, by omega⟩ (e1_3.st.c3 (by omega) (by omega)) ?_
          refine wp_cV2 0 0 [some _, some _, none, some _, none] dX11_right_122 tX2_verdict rfl (by decide) nX2_verdict vX2_verdict lX11_302 ⟨by decide, by decide⟩ (Nat.le_of_ble_eq_true rfl) zg_3.o (Nat.le_of_ble_eq_true rfl) rfl ?_
          refine pX2_verdict zg_3 (cb_srt hrg.1) (show rgB r pa f p < 63 by omega) (srt_mk hd (by omega) (by omega)) (show rT r p < 63 by omega) ?_
          intro _ _
          have h3 := vd_lt (cuL (cbX r my f (pmR r p (-1)) (rgA r pa f p) (rgB r pa f p))) (mkL r f p)
          refine wp_iconst (v := (nI 1)) dX11_right_125 (by decide +kernel) ?_
          refine wp_icmp_neN dX11_right_126 rfl rfl ⟨by omega, by omega⟩ (fun c4 => ?_) (fun c4 => ?_)
          · refine wp_iinc1 (ls1 := [_, _, _, _, _, some _, _]) dX11_right_132 rfl (by decide) rfl ?_
            refine wp_goto dX11_right_135 ?_
            have ec9 : cntB (rgtB r pa my f) (p + 1) = cntB (rgtB r pa my f) p := cntB_s0 (Bool.eq_false_iff.mpr (fun z => by have := (vd_rg hm1).mpr z; omega))
            rw [← ec9]
            exact ih (p + 1) _ _ _ _ _ _ _ _ _ (by omega) (((hf1.up (by decide) (Nat.le_refl _)).tr (f2.up (by decide) (Nat.le_refl _))).tr (f3.up (by decide) (Nat.le_refl _))) e1_3 zg_3 ln1_3 (by omega)
          · refine wp_iinc1 (ls1 := [_, _, _, _, some _, _, _]) dX11_right_129 rfl (by decide) rfl ?_
            refine wp_iinc1 (ls1 := [_, _, _, _, _, some _, _]) dX11_right_132 rfl (by decide) rfl ?_
            refine wp_goto dX11_right_135 ?_
            have ec9 : cntB (rgtB r pa my f) (p + 1) = cntB (rgtB r pa my f) p + 1 := cntB_s1 ((vd_rg hm1).mp (by omega))
            rw [← ec9]
            exact ih (p + 1) _ _ _ _ _ _ _ _ _ (by omega) (((hf1.up (by decide) (Nat.le_refl _)).tr (f2.up (by decide) (Nat.le_refl _))).tr (f3.up (by decide) (Nat.le_refl _))) e1_3 zg_3 ln1_3 (by omega)
        · have hn1 := ex_no (by omega) (by omega) hn1
          intro _ _
          refine wp_if_eq dX11_right_56 (fun _ => ?_) (fun q => absurd q (by decide +kernel))
          refine wp_iinc1 (ls1 := [_, _, _, _, _, some _, _]) dX11_right_132 rfl (by decide) rfl ?_
          refine wp_goto dX11_right_135 ?_
          have ec9 : cntB (rgtB r pa my f) (p + 1) = cntB (rgtB r pa my f) p := cntB_s0 (rg_no hn1)
          rw [← ec9]
          exact ih (p + 1) _ _ _ _ _ _ _ _ _ (by omega) (hf1.up (by decide) (Nat.le_refl _)) e1 zg1 ln1 (by omega)
  have hz : ∀ h' z, cFr [1] 0 ow h ow h' → (∃ pl gb ge gs gn gf gt, zG ow h' pl gb ge gs gn gf gt) → spRight r F pa my y = z → Q (some (.int z)) h' := fun h' z f1 g e => e ▸ hq h' f1 g
  refine wp_aload_n dX11_right_0 rfl rfl ?_
  refine wp_getR dX11_right_1 lX11_20 rfl e9.oo e9.f4 ?_
  refine wp_iload_n dX11_right_4 rfl rfl ?_
  refine wp_cV1 0 0 [some _, some _] dX11_right_5 tX1_has rfl (by decide) nX1_has vX1_has lX11_139 ⟨by decide, by decide⟩ (Nat.le_of_ble_eq_true rfl) e9.fl.oo (Nat.le_of_ble_eq_true rfl) rfl ?_
  refine pX1_has e9.fl hF4 (fun f1 hf1 ef1 => ?_) (fun xn1 => ?_)
  · subst ef1
    intro _ _
    refine wp_if_ne dX11_right_8 (fun _ => ?_) (fun q => absurd q (by decide +kernel))
    refine wp_aload_n dX11_right_13 rfl rfl ?_
    refine wp_getR dX11_right_14 lX11_34 rfl e9.oo e9.r6 ?_
    refine wp_cV0 2 43 [some _] dX11_right_17 tX3_now rfl (by decide) nX3_now vX3_now lX11_101 ⟨by decide, by decide⟩ (Nat.le_of_ble_eq_true rfl) e9.hh.o (Nat.le_of_ble_eq_true rfl) rfl ?_
    refine pX3_now e9.hh e9.kb e9.od.1 e9.od.2 ?_
    intro _ _
    refine wp_astore_n (ls1 := [_, _, some _, _, _, _, _]) dX11_right_20 rfl (by decide) rfl ?_
    refine wp_aload_n dX11_right_21 rfl rfl ?_
    refine wp_getR dX11_right_22 lX11_143 rfl e9.st.oo e9.st.r1 ?_
    refine wp_iload_n dX11_right_25 rfl rfl ?_
    rcases e9.st.ln (f := f1) (by omega) with ⟨hl2, q2, eq2, ln2⟩ | ⟨hl2, eq2⟩
    · refine wp_aaldJ dX11_right_26 e9.st.a1 (by decide) (by decide) rfl ⟨by omega, by omega⟩ eq2 ?_
      refine wp_astore_n (ls1 := [_, _, _, some _, _, _, _]) dX11_right_27 rfl (by decide) rfl ?_
      refine wp_aload_n dX11_right_28 rfl rfl ?_
      refine wp_ifnonnull dX11_right_29 ?_
      refine wp_iconst (v := (nI 0)) dX11_right_34 (by decide +kernel) ?_
      refine wp_istore (ls1 := [_, _, _, _, some _, _, _]) dX11_right_35 (by decide) rfl ?_
      refine wp_iconst (v := (nI 0)) dX11_right_37 (by decide +kernel) ?_
      refine wp_istore (ls1 := [_, _, _, _, _, some _, _]) dX11_right_38 (by decide) rfl ?_
      exact hloop f1 _ (by omega) hl2 hz (rP r + 1) 0 _ _ _ _ _ _ _ _ _ (by omega) cFr.rf e9 zg ln2 (by omega)
    · refine wp_aaldJ dX11_right_26 e9.st.a1 (by decide) (by decide) rfl ⟨by omega, by omega⟩ eq2 ?_
      refine wp_astore_nN (ls1 := [_, _, _, some _, _, _, _]) dX11_right_27 rfl (by decide) rfl ?_
      refine wp_aload_nN dX11_right_28 rfl rfl ?_
      refine wp_ifnonnullN dX11_right_29 ?_
      refine wp_iconst (v := (-1)) dX11_right_32 (by decide +kernel) ?_
      refine wp_ireturn dX11_right_33 rfl ?_
      exact hz _ _ cFr.rf ⟨_, _, _, _, _, _, _, zg⟩ (by unfold spRight; rw [ix_nI (by omega) (by omega)]; exact if_neg hl2)
  · intro _ _
    refine wp_if_ne dX11_right_8 (fun q => absurd q (by decide +kernel)) (fun _ => ?_)
    refine wp_iconst (v := (-1)) dX11_right_11 (by decide +kernel) ?_
    refine wp_ireturn dX11_right_12 rfl ?_
    exact hz _ _ cFr.rf ⟨_, _, _, _, _, _, _, zg⟩ (by unfold spRight; rw [xn1])
