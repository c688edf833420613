/-! ===== letter, alike, sturdy ===== -/
theorem lt_ne {r : Nat → Int64} {F : Nat} {pa my : Nat → Int32} {p f : Nat} {but : Int32} {x : Nat × List (Nat × Nat)} (hd : sOK r F pa my) (hp : p < rP r) (hf : f < F) (h : cuX r pa my p but f = some x) : ltA (rwW r p but) x.2 ≠ [] := by
  have hs := srt_cu (p := p) (but := but) hd hf
  rw [h] at hs
  have hs : srt x.2 _ := hs
  have h0 := (cuX_ok hd hf x h).2
  obtain ⟨m, hm⟩ : ∃ m, x.2.length = m + 1 := ⟨x.2.length - 1, by have := List.length_pos_iff.mpr h0; omega⟩
  have := ltI_pos (W := rwW r p but) hs (fun k hk => bN_pos (hd.wd p _ hp (rowL_mem9 hk)).1) m (by omega)
  intro z
  have e : ltI (rwW r p but) x.2 (m + 1) = [] := by rw [← hm]; exact z
  rw [e] at this
  exact absurd this (by decide)
set_option maxRecDepth 20000 in
theorem pX11_spellPage {h : mH} {Q : Option Value → mH → Prop} {ow : Nat → Nat} {F fa o1 d1 u1 : Nat} {pa my : Nat → Int32} {r : Nat → Int64} {pl : Nat → Int64} {gb ge : Int32} {gs gn : Int64} {gf gt : Int32} {lb : Nat → Int32} {lc : Int32} {x y : Int32} (e9 : eS ow h F pa my r fa o1 d1 u1) (hd : sOK r F pa my) (zg : zG ow h pl gb ge gs gn gf gt) (zl : zL ow h 121 3 lb lc) (ht : ∀ h' p f c, cFr [1, 3] 0 ow h ow h' → (∃ pl gb ge gs gn gf gt, zG ow h' pl gb ge gs gn gf gt) → p < rP r → f < F → x = nI p → y = nI f → r (655 + 70 * f) = 1 → cuX r pa my p (-1) f = some c → ltR ow h' 121 3 (ltA (rwW r p (-1)) c.2) → Q (some (.int (nI 1))) h') (hf : ∀ h', cFr [1, 3] 0 ow h ow h' → (∃ pl gb ge gs gn gf gt, zG ow h' pl gb ge gs gn gf gt) → (∃ lb lc, zL ow h' 121 3 lb lc) → (((ix x (rP r) = none ∨ ix y F = none) ∨ ∃ f, f < F ∧ y = nI f ∧ ¬ r (655 + 70 * f) = 1) ∨ ∃ p f, p < rP r ∧ f < F ∧ x = nI p ∧ y = nI f ∧ r (655 + 70 * f) = 1 ∧ cuX r pa my p (-1) f = none) → Q (some (.int (nI 0))) h') : Wp mX11_spellPage 6 146 0 [some (.ref 0), some (.int x), some (.int y)] [] h Q := by
  have hP6 := hd.w.1.2
  have hF4 := hd.f4
  refine wp_aload_n dX11_spellPage_0 rfl rfl ?_
  refine wp_iload_n dX11_spellPage_1 rfl rfl ?_
  refine wp_iload_n dX11_spellPage_2 rfl rfl ?_
  refine wp_cV2 4 85 [some _, some _, some _] dX11_spellPage_3 tX11_learntFor rfl (by decide) nX11_learntFor vX11_learntFor lX11_332 ⟨by decide, by decide⟩ (Nat.le_of_ble_eq_true rfl) e9.oo (Nat.le_of_ble_eq_true rfl) rfl ?_
  refine pX11_learntFor e9 hd (fun p1 f1 hp1 hff1 ep1 ef1 hl1 => ?_) (fun xn1 => ?_)
  · subst ep1
    subst ef1
    intro _ _
    refine wp_if_eq dX11_spellPage_6 (fun q => absurd q (by decide +kernel)) (fun _ => ?_)
    refine wp_aload_n dX11_spellPage_9 rfl rfl ?_
    refine wp_iload_n dX11_spellPage_10 rfl rfl ?_
    refine wp_iload_n dX11_spellPage_11 rfl rfl ?_
    refine wp_iconst (v := (-1)) dX11_spellPage_12 (by decide +kernel) ?_
    refine wp_cV3 5 119 [some _, some _, some _, some _, none, none, none, none] dX11_spellPage_13 tX11_slicePage rfl (by decide) nX11_slicePage vX11_slicePage lX11_335 ⟨by decide, by decide⟩ (Nat.le_of_ble_eq_true rfl) e9.oo (Nat.le_of_ble_eq_true rfl) rfl ?_
    refine pX11_slicePage e9 hd zg (by omega) (by omega) (fun hh2 pl2 gb2 ge2 gf2 gt2 v2 f2 zg_2 gp2 ev2 => ?_)
    intro _ _
    have e9_2 := e9.fr f2 (by decide)
    have zl_2 := zl.fr f2 (rnS (by omega) rn0)
    refine wp_iconst (v := (-1)) dX11_spellPage_16 (by decide +kernel) ?_
    cases ecx2 : cuX r pa my p1 (-1) f1 with
    | none =>
      rw [ecx2] at zg_2 ev2
      subst ev2
      refine wp_icmp_ne dX11_spellPage_17 (fun q => absurd rfl q) (fun _ => ?_)
      refine wp_iconst (v := (nI 0)) dX11_spellPage_20 (by decide +kernel) ?_
      refine wp_zreturn dX11_spellPage_21 rfl (by first | exact Or.inl rfl | exact Or.inr rfl) ?_
      exact hf _ (f2.up (by decide) (Nat.le_refl _)) ⟨_, _, _, _, _, _, _, zg_2⟩ ⟨_, _, zl_2⟩ (Or.inr ⟨p1, f1, by omega, by omega, rfl, rfl, hl1, ecx2⟩)
    | some x2 =>
      have hx2 := cuX_ok hd (by omega) x2 ecx2
      have hb2 := cuX_lt hd (by omega) x2 ecx2
      have sr2 := srt_cu (but := (-1)) (p := p1) (f := f1) hd (by omega)
      have l82 := cu_8 (but := (-1)) (p := p1) (f := f1) hd (by omega)
      rw [ecx2] at sr2 l82 zg_2 ev2
      subst ev2
      refine wp_icmp_ne dX11_spellPage_17 (fun _ => ?_) (fun q => absurd q (nI_ne_m1 (by omega)))
      refine wp_aload_n dX11_spellPage_22 rfl rfl ?_
      refine wp_getR dX11_spellPage_23 lX11_74 rfl e9_2.oo e9_2.r12 ?_
      refine wp_aload_n dX11_spellPage_26 rfl rfl ?_
      refine wp_getR dX11_spellPage_27 lX11_34 rfl e9_2.oo e9_2.r6 ?_
      refine wp_cV0 2 43 [some _] dX11_spellPage_30 tX3_now rfl (by decide) nX3_now vX3_now lX11_101 ⟨by decide, by decide⟩ (Nat.le_of_ble_eq_true rfl) e9_2.hh.o (Nat.le_of_ble_eq_true rfl) rfl ?_
      refine pX3_now e9_2.hh e9_2.kb e9_2.od.1 e9_2.od.2 ?_
      intro _ _
      refine wp_iload_n dX11_spellPage_33 rfl rfl ?_
      refine wp_cV1 0 0 [some _, some _] dX11_spellPage_34 tX8_pageAt rfl (by decide) nX8_pageAt vX8_pageAt lX11_176 ⟨by decide, by decide⟩ (Nat.le_of_ble_eq_true rfl) e9_2.st.oo (Nat.le_of_ble_eq_true rfl) rfl ?_
      refine pX8_pageAt e9_2.st hP6 (fun p3 q3 hp3 ep3 pg3 => ?_) (fun xn3 => absurd xn3 (by rw [ix_nI (by omega) (by omega)]; exact fun z => by cases z))
      have ep3 := (nI_eq (by omega) (by omega)).mp ep3
      subst ep3
      intro _ _
      refine wp_iconst (v := (-1)) dX11_spellPage_37 (by decide +kernel) ?_
      refine wp_aload_n dX11_spellPage_38 rfl rfl ?_
      refine wp_getR dX11_spellPage_39 lX11_60 rfl e9_2.oo e9_2.r10 ?_
      refine wp_getLV dX11_spellPage_42 lX11_339 rfl zg_2.o zg_2.f3 ?_
      refine wp_aload_n dX11_spellPage_45 rfl rfl ?_
      refine wp_getR dX11_spellPage_46 lX11_60 rfl e9_2.oo e9_2.r10 ?_
      refine wp_getLV dX11_spellPage_49 lX11_342 rfl zg_2.o zg_2.f4 ?_
      refine wp_cV4 3 67 [some _, some _, some _, some _, none, some _, none, none, none, none, none, none] dX11_spellPage_52 tX5_spell rfl (by decide) nX5_spell vX5_spell lX11_354 ⟨by decide, by decide⟩ (Nat.le_of_ble_eq_true rfl) zl_2.o (Nat.le_of_ble_eq_true rfl) rfl ?_
      refine pX5_spell zl_2 (by decide) hd (by omega) pg3 (Or.inl rfl) sr2 l82 (fun hh4 f4 le_4 => ?_)
      intro _ _
      have e9_4 := e9_2.fr f4 (by decide)
      have zg_4 := zg_2.fr f4 (rnS (by omega) rn0)
      have pg3_4 := pg3.fr f4 (rnS (by omega) rn0)
      refine wp_iconst (v := (nI 1)) dX11_spellPage_55 (by decide +kernel) ?_
      refine wp_zreturn dX11_spellPage_56 rfl (by first | exact Or.inl rfl | exact Or.inr rfl) ?_
      exact ht _ p1 f1 x2 ((f2.up (by decide) (Nat.le_refl _)).tr (f4.up (by decide) (Nat.le_refl _))) ⟨_, _, _, _, _, _, _, zg_4⟩ (by omega) (by omega) rfl rfl hl1 ecx2 le_4
  · intro _ _
    refine wp_if_eq dX11_spellPage_6 (fun _ => ?_) (fun q => absurd q (by decide +kernel))
    refine wp_iconst (v := (nI 0)) dX11_spellPage_20 (by decide +kernel) ?_
    refine wp_zreturn dX11_spellPage_21 rfl (by first | exact Or.inl rfl | exact Or.inr rfl) ?_
    exact hf _ cFr.rf ⟨_, _, _, _, _, _, _, zg⟩ ⟨_, _, zl⟩ (Or.inl xn1)
theorem ltR.z {ow : Nat → Nat} {h : mH} {a ρ : Nat} {L : List Int32} (e : ltR ow h a ρ L) : ∃ lb lc, zL ow h a ρ lb lc := ⟨_, _, e.choose_spec.1⟩
section
variable {r : Nat → Int64} {F p f : Nat} {pa my : Nat → Int32} {x y i : Int32} {c : Nat × List (Nat × Nat)}
theorem no_cn (h4 : F ≤ 4) (h6 : rP r ≤ 6) (h : ((ix x (rP r) = none ∨ ix y F = none) ∨ ∃ f, f < F ∧ y = nI f ∧ ¬ r (655 + 70 * f) = 1) ∨ ∃ p f, p < rP r ∧ f < F ∧ x = nI p ∧ y = nI f ∧ r (655 + 70 * f) = 1 ∧ cuX r pa my p (-1) f = none) : cnC r F x y = none ∨ ∃ p f, cnC r F x y = some (p, f) ∧ cuX r pa my p (-1) f = none := by
  rcases h with h | ⟨p, f, h1, h2, rfl, rfl, h3, h5⟩
  · exact Or.inl (cn_n h4 h)
  · exact Or.inr ⟨p, f, cn_s h1 h6 h2 h4 h3, h5⟩
end
theorem no_Letter {r : Nat → Int64} {F : Nat} {pa my : Nat → Int32} {x y i : Int32} (h : cnC r F x y = none ∨ ∃ p f, cnC r F x y = some (p, f) ∧ cuX r pa my p (-1) f = none) : spLetter r F pa my x y i = -1 := by
  unfold spLetter
  rcases h with h | ⟨p, f, h1, h2⟩
  · rw [h]
  · rw [h1]
    show (match cuX r pa my p (-1) f with | some c => _ | none => _) = _
    rw [h2]
theorem no_Alike {r : Nat → Int64} {F : Nat} {pa my : Nat → Int32} {x y i : Int32} (h : cnC r F x y = none ∨ ∃ p f, cnC r F x y = some (p, f) ∧ cuX r pa my p (-1) f = none) : spAlike r F pa my x y = -1 := by
  unfold spAlike
  rcases h with h | ⟨p, f, h1, h2⟩
  · rw [h]
  · rw [h1]
    show (match cuX r pa my p (-1) f with | some c => _ | none => _) = _
    rw [h2]
theorem no_Sturdy {r : Nat → Int64} {F : Nat} {pa my : Nat → Int32} {x y i : Int32} (h : cnC r F x y = none ∨ ∃ p f, cnC r F x y = some (p, f) ∧ cuX r pa my p (-1) f = none) : spSturdy r F pa my x y = -1 := by
  unfold spSturdy
  rcases h with h | ⟨p, f, h1, h2⟩
  · rw [h]
  · rw [h1]
    show (match cuX r pa my p (-1) f with | some c => _ | none => _) = _
    rw [h2]
theorem let_v {r : Nat → Int64} {F p f : Nat} {pa my : Nat → Int32} {i v : Int32} {c : Nat × List (Nat × Nat)} (hn : cnC r F (nI p) (nI f) = some (p, f)) (hc : cuX r pa my p (-1) f = some c) (hv : letV (ltA (rwW r p (-1)) c.2) i = v) : spLetter r F pa my (nI p) (nI f) i = v := by
  unfold spLetter
  rw [hn]
  show (match cuX r pa my p (-1) f with | some c => _ | none => _) = _
  rw [hc]
  exact hv
set_option maxRecDepth 20000 in
theorem pX11_letter {h : mH} {Q : Option Value → mH → Prop} {ow : Nat → Nat} {F fa o1 d1 u1 : Nat} {pa my : Nat → Int32} {r : Nat → Int64} {pl : Nat → Int64} {gb ge : Int32} {gs gn : Int64} {gf gt : Int32} {lb : Nat → Int32} {lc : Int32} {x y ii : Int32} (e9 : eS ow h F pa my r fa o1 d1 u1) (hd : sOK r F pa my) (zg : zG ow h pl gb ge gs gn gf gt) (zl : zL ow h 121 3 lb lc) (hq : ∀ h', cFr [1, 3] 0 ow h ow h' → (∃ pl gb ge gs gn gf gt, zG ow h' pl gb ge gs gn gf gt) → (∃ lb lc, zL ow h' 121 3 lb lc) → Q (some (.int (spLetter r F pa my x y ii))) h') : Wp mX11_letter 7 168 0 [some (.ref 0), some (.int x), some (.int y), some (.int ii)] [] h Q := by
  have hP6 := hd.w.1.2
  have hF4 := hd.f4
  have hz : ∀ h' z, cFr [1, 3] 0 ow h ow h' → (∃ pl gb ge gs gn gf gt, zG ow h' pl gb ge gs gn gf gt) → (∃ lb lc, zL ow h' 121 3 lb lc) → spLetter r F pa my x y ii = z → Q (some (.int z)) h' := fun h' z f1 g l e => e ▸ hq h' f1 g l
  refine wp_aload_n dX11_letter_0 rfl rfl ?_
  refine wp_iload_n dX11_letter_1 rfl rfl ?_
  refine wp_iload_n dX11_letter_2 rfl rfl ?_
  refine wp_cV2 6 146 [some _, some _, some _] dX11_letter_3 tX11_spellPage rfl (by decide) nX11_spellPage vX11_spellPage lX11_344 ⟨by decide, by decide⟩ (Nat.le_of_ble_eq_true rfl) e9.oo (Nat.le_of_ble_eq_true rfl) rfl ?_
  refine pX11_spellPage e9 hd zg zl (fun hh1 p1 f1 c1 fr1 gg1 hp1 hff1 ep1 ef1 hl1 ec1 le1 => ?_) (fun hh1 fr1 gg1 le1 no1 => ?_)
  · subst ep1
    subst ef1
    intro _ _
    obtain ⟨_, _, _, _, _, _, _, zg_1⟩ := gg1
    have e9_1 := e9.fr fr1 (by decide)
    refine wp_if_ne dX11_letter_6 (fun _ => ?_) (fun q => absurd q (by decide +kernel))
    refine wp_iload_n dX11_letter_11 rfl rfl ?_
    refine wp_iconst (v := (-1)) dX11_letter_12 (by decide +kernel) ?_
    refine wp_icmp_ne dX11_letter_13 (fun c2 => ?_) (fun c2 => ?_)
    · refine wp_aload_n dX11_letter_26 rfl rfl ?_
      refine wp_getR dX11_letter_27 lX11_74 rfl e9_1.oo e9_1.r12 ?_
      refine wp_iload_n dX11_letter_30 rfl rfl ?_
      refine wp_cV1 0 0 [some _, some _] dX11_letter_31 tX5_at rfl (by decide) nX5_at vX5_at lX11_348 ⟨by decide, by decide⟩ (Nat.le_of_ble_eq_true rfl) le1.oo (Nat.le_of_ble_eq_true rfl) rfl ?_
      refine pX5_at le1 (fun j2 hj2 ej2 => ?_) (fun xn2 => ?_)
      · intro _ _
        refine wp_ireturn dX11_letter_34 rfl ?_
        exact hz _ _ (fr1.up (by decide) (Nat.le_refl _)) ⟨_, _, _, _, _, _, _, zg_1⟩ le1.z (let_v (cn_s (by omega) hP6 (by omega) hF4 hl1) ec1 (by rw [ej2]; exact letV_s (nI_ne_m1 (by have := ltR_360 le1; omega)) (ix_nI (by omega) (by have := ltR_360 le1; omega))))
      · intro _ _
        refine wp_ireturn dX11_letter_34 rfl ?_
        exact hz _ _ (fr1.up (by decide) (Nat.le_refl _)) ⟨_, _, _, _, _, _, _, zg_1⟩ le1.z (let_v (cn_s (by omega) hP6 (by omega) hF4 hl1) ec1 (letV_n (by assumption) xn2))
    · refine wp_aload_n dX11_letter_16 rfl rfl ?_
      refine wp_getR dX11_letter_17 lX11_74 rfl e9_1.oo e9_1.r12 ?_
      refine wp_getIV dX11_letter_20 lX11_347 rfl le1.oo le1.f1 ?_
      refine wp_goto dX11_letter_23 ?_
      refine wp_ireturn dX11_letter_34 rfl ?_
      exact hz _ _ (fr1.up (by decide) (Nat.le_refl _)) ⟨_, _, _, _, _, _, _, zg_1⟩ le1.z (let_v (cn_s (by omega) hP6 (by omega) hF4 hl1) ec1 (if_pos (by assumption)))
  · intro _ _
    obtain ⟨_, _, _, _, _, _, _, zg_1⟩ := gg1
    obtain ⟨_, _, zl1⟩ := le1
    have e9_1 := e9.fr fr1 (by decide)
    refine wp_if_ne dX11_letter_6 (fun q => absurd q (by decide +kernel)) (fun _ => ?_)
    refine wp_iconst (v := (-1)) dX11_letter_9 (by decide +kernel) ?_
    refine wp_ireturn dX11_letter_10 rfl ?_
    exact hz _ _ (fr1.up (by decide) (Nat.le_refl _)) ⟨_, _, _, _, _, _, _, zg_1⟩ ⟨_, _, zl1⟩ (no_Letter (no_cn hF4 hP6 no1))
theorem alk_s {r : Nat → Int64} {pa my : Nat → Int32} {f q : Nat} {L : List Int32} {c : Nat × List (Nat × Nat)} (h : cuX r pa my q (-1) f = some c) : alkB r pa my f L q = decide (ltA (rwW r q (-1)) c.2 = L) := by
  unfold alkB
  rw [h]
theorem alk_0 {r : Nat → Int64} {pa my : Nat → Int32} {f q : Nat} {L : List Int32} (h : cuX r pa my q (-1) f = none) : alkB r pa my f L q = false := by
  unfold alkB
  rw [h]
theorem alk_v {r : Nat → Int64} {F p f v : Nat} {pa my : Nat → Int32} {c : Nat × List (Nat × Nat)} (hn : cnC r F (nI p) (nI f) = some (p, f)) (hc : cuX r pa my p (-1) f = some c) (hv : (fst1 (alkB r pa my f (ltA (rwW r p (-1)) c.2)) 0 p).getD p = v) : spAlike r F pa my (nI p) (nI f) = nI v := by
  unfold spAlike
  rw [hn]
  show (match cuX r pa my p (-1) f with | some c => _ | none => _) = _
  rw [hc]
  exact congrArg nI hv
theorem stu_v {r : Nat → Int64} {F p f : Nat} {pa my : Nat → Int32} {c : Nat × List (Nat × Nat)} (hn : cnC r F (nI p) (nI f) = some (p, f)) (hc : cuX r pa my p (-1) f = some c) : spSturdy r F pa my (nI p) (nI f) = nI (cntB (stuB r pa my p f (ltA (rwW r p (-1)) c.2)) (rT r p)) := by
  unfold spSturdy
  rw [hn]
  show (match cuX r pa my p (-1) f with | some c => _ | none => _) = _
  rw [hc]
theorem stu_s {r : Nat → Int64} {pa my : Nat → Int32} {p f b : Nat} {L : List Int32} {c : Nat × List (Nat × Nat)} (h : cuX r pa my p (nI b) f = some c) : stuB r pa my p f L b = decide (ltA (rwW r p (nI b)) c.2 = L) := by
  unfold stuB
  rw [h]
  rfl
theorem stu_0 {r : Nat → Int64} {pa my : Nat → Int32} {p f b : Nat} {L : List Int32} (hL : L ≠ []) (h : cuX r pa my p (nI b) f = none) : stuB r pa my p f L b = false := by
  unfold stuB
  rw [h]
  exact decide_eq_false (fun z => hL z.symm)
set_option maxRecDepth 20000 in
theorem alikeC_loop {h : mH} {Q : Option Value → mH → Prop} {ow : Nat → Nat} {F fa o1 d1 u1 : Nat} {pa my : Nat → Int32} {r : Nat → Int64} {pl : Nat → Int64} {gb ge : Int32} {gs gn : Int64} {gf gt : Int32} {p f : Nat} {L : List Int32} (e9 : eS ow h F pa my r fa o1 d1 u1) (hd : sOK r F pa my) (zg : zG ow h pl gb ge gs gn gf gt) (le : ltR ow h 121 3 L) (zo : ∃ lb lc, zL ow h 123 4 lb lc) (hp : p < rP r) (hf : f < F) (K9 : ∀ h' v, cFr [1, 3, 4] 0 ow h ow h' → (∃ pl gb ge gs gn gf gt, zG ow h' pl gb ge gs gn gf gt) → ((∃ lb lc, zL ow h' 121 3 lb lc) ∧ ∃ lb lc, zL ow h' 123 4 lb lc) → (fst1 (alkB r pa my f L) 0 p).getD p = v → Q (some (.int (nI v))) h') : Wp mX11_alike 7 168 22 [some (.ref 0), some (.int (nI p)), some (.int (nI f)), some (.ref (nowA o1 d1)), some (.int (nI 0))] [] h Q := by
  have hP6 := hd.w.1.2
  have hF4 := hd.f4
  have hloop : ∀  (t9 : Nat) (u : Nat) (pl1 : Nat → Int64) (gb1 : Int32) (ge1 : Int32) (gs1 : Int64) (gn1 : Int64) (gf1 : Int32) (gt1 : Int32) (h1 : mH), (u ≤ p) → (cFr [1, 3, 4] 0 ow h ow h1) → (eS ow h1 F pa my r fa o1 d1 u1) → (zG ow h1 pl1 gb1 ge1 gs1 gn1 gf1 gt1) → (ltR ow h1 121 3 L) → (∃ lb lc, zL ow h1 123 4 lb lc) → (∀ j, j < u → alkB r pa my f L j = false) → (p < u + t9) → Wp mX11_alike 7 168 22 [some (.ref 0), some (.int (nI p)), some (.int (nI f)), some (.ref (nowA o1 d1)), some (.int (nI u))] [] h1 Q := by
    intro t9
    induction t9 with
    | zero => intros; omega
    | succ t9 ih =>
      intro u pl1 gb1 ge1 gs1 gn1 gf1 gt1 h1 hu hf1 e1 zg1 le1 zo0 hno hmz
      obtain ⟨lb1, lc1, zo1⟩ := zo0
      refine wp_iload dX11_alike_22 rfl ?_
      refine wp_iload_n dX11_alike_24 rfl rfl ?_
      refine wp_icmp_geN dX11_alike_25 rfl rfl ⟨by omega, by omega⟩ (fun c2 => ?_) (fun c2 => ?_)
      · refine wp_iload_n dX11_alike_91 rfl rfl ?_
        refine wp_ireturn dX11_alike_92 rfl ?_
        exact K9 _ p (hf1.up (by decide) (Nat.le_refl _)) ⟨_, _, _, _, _, _, _, zg1⟩ ⟨le1.z, ⟨_, _, zo1⟩⟩ (by rw [fst1_no (fun j hj => hno j (by omega))]; rfl)
      · refine wp_aload_n dX11_alike_28 rfl rfl ?_
        refine wp_iload dX11_alike_29 rfl ?_
        refine wp_iload_n dX11_alike_31 rfl rfl ?_
        refine wp_iconst (v := (-1)) dX11_alike_32 (by decide +kernel) ?_
        refine wp_cV3 5 119 [some _, some _, some _, some _, none, none, none, none] dX11_alike_33 tX11_slicePage rfl (by decide) nX11_slicePage vX11_slicePage lX11_335 ⟨by decide, by decide⟩ (Nat.le_of_ble_eq_true rfl) e1.oo (Nat.le_of_ble_eq_true rfl) rfl ?_
        refine pX11_slicePage e1 hd zg1 (by omega) (by omega) (fun hh1 pl1 gb1 ge1 gf1 gt1 v1 f1 zg_1 gp1 ev1 => ?_)
        intro _ _
        have e1_1 := e1.fr f1 (by decide)
        have le1_1 := le1.fr f1 (rnS (by omega) rn0)
        have zo1_1 := zo1.fr f1 (rnS (by omega) rn0)
        refine wp_iconst (v := (-1)) dX11_alike_36 (by decide +kernel) ?_
        cases ecx1 : cuX r pa my u (-1) f with
        | none =>
          rw [ecx1] at zg_1 ev1
          subst ev1
          refine wp_icmp_eq dX11_alike_37 (fun _ => ?_) (fun q => absurd rfl q)
          refine wp_iinc1 (ls1 := [_, _, _, _, some _]) dX11_alike_85 rfl (by decide) rfl ?_
          refine wp_goto dX11_alike_88 ?_
          exact ih (u + 1) _ _ _ _ _ _ _ _ (by omega) ((hf1.up (by decide) (Nat.le_refl _)).tr (f1.up (by decide) (Nat.le_refl _))) e1_1 zg_1 le1_1 ⟨_, _, zo1_1⟩ (lt_s hno (alk_0 ecx1)) (by omega)
        | some x1 =>
          have hx1 := cuX_ok hd (by omega) x1 ecx1
          have hb1 := cuX_lt hd (by omega) x1 ecx1
          have sr1 := srt_cu (but := (-1)) (p := u) (f := f) hd (by omega)
          have l81 := cu_8 (but := (-1)) (p := u) (f := f) hd (by omega)
          rw [ecx1] at sr1 l81 zg_1 ev1
          subst ev1
          refine wp_icmp_eq dX11_alike_37 (fun q => absurd q (nI_ne_m1 (by omega))) (fun _ => ?_)
          refine wp_aload_n dX11_alike_40 rfl rfl ?_
          refine wp_getR dX11_alike_41 lX11_78 rfl e1_1.oo e1_1.r13 ?_
          refine wp_aload_n dX11_alike_44 rfl rfl ?_
          refine wp_iload dX11_alike_45 rfl ?_
          refine wp_cV1 0 0 [some _, some _] dX11_alike_47 tX8_pageAt rfl (by decide) nX8_pageAt vX8_pageAt lX11_176 ⟨by decide, by decide⟩ (Nat.le_of_ble_eq_true rfl) e1_1.st.oo (Nat.le_of_ble_eq_true rfl) rfl ?_
          refine pX8_pageAt e1_1.st hP6 (fun p2 q2 hp2 ep2 pg2 => ?_) (fun xn2 => absurd xn2 (by rw [ix_nI (by omega) (by omega)]; exact fun z => by cases z))
          have ep2 := (nI_eq (by omega) (by omega)).mp ep2
          subst ep2
          intro _ _
          refine wp_iconst (v := (-1)) dX11_alike_50 (by decide +kernel) ?_
          refine wp_aload_n dX11_alike_51 rfl rfl ?_
          refine wp_getR dX11_alike_52 lX11_60 rfl e1_1.oo e1_1.r10 ?_
          refine wp_getLV dX11_alike_55 lX11_339 rfl zg_1.o zg_1.f3 ?_
          refine wp_aload_n dX11_alike_58 rfl rfl ?_
          refine wp_getR dX11_alike_59 lX11_60 rfl e1_1.oo e1_1.r10 ?_
          refine wp_getLV dX11_alike_62 lX11_342 rfl zg_1.o zg_1.f4 ?_
          refine wp_cV4 3 67 [some _, some _, some _, some _, none, some _, none, none, none, none, none, none] dX11_alike_65 tX5_spell rfl (by decide) nX5_spell vX5_spell lX11_354 ⟨by decide, by decide⟩ (Nat.le_of_ble_eq_true rfl) zo1_1.o (Nat.le_of_ble_eq_true rfl) rfl ?_
          refine pX5_spell zo1_1 (by decide) hd (by omega) pg2 (Or.inl rfl) sr1 l81 (fun hh3 f3 le_3 => ?_)
          intro _ _
          have e1_3 := e1_1.fr f3 (by decide)
          have zg_3 := zg_1.fr f3 (rnS (by omega) rn0)
          have le1_3 := le1_1.fr f3 (rnS (by omega) rn0)
          have pg2_3 := pg2.fr f3 (rnS (by omega) rn0)
          refine wp_aload_n dX11_alike_68 rfl rfl ?_
          refine wp_getR dX11_alike_69 lX11_78 rfl e1_3.oo e1_3.r13 ?_
          refine wp_aload_n dX11_alike_72 rfl rfl ?_
          refine wp_getR dX11_alike_73 lX11_74 rfl e1_3.oo e1_3.r12 ?_
          refine wp_cV1 0 0 [some _, some _, none] dX11_alike_76 tX5_isLike rfl (by decide) nX5_isLike vX5_isLike lX11_358 ⟨by decide, by decide⟩ (Nat.le_of_ble_eq_true rfl) le_3.oo (Nat.le_of_ble_eq_true rfl) rfl ?_
          refine pX5_isLike le_3 le1_3 (fun lk4 => ?_) (fun lk4 => ?_)
          · intro _ _
            refine wp_if_eq dX11_alike_79 (fun q => absurd q (by decide +kernel)) (fun _ => ?_)
            refine wp_iload dX11_alike_82 rfl ?_
            refine wp_ireturn dX11_alike_84 rfl ?_
            exact K9 _ u (((hf1.up (by decide) (Nat.le_refl _)).tr (f1.up (by decide) (Nat.le_refl _))).tr (f3.up (by decide) (Nat.le_refl _))) ⟨_, _, _, _, _, _, _, zg_3⟩ ⟨le1_3.z, le_3.z⟩ (by rw [fst1_eq (Nat.zero_le _) (by omega) ((alk_s ecx1).trans (decide_eq_true lk4)) (fun i _ hi => hno i hi)]; rfl)
          · intro _ _
            refine wp_if_eq dX11_alike_79 (fun _ => ?_) (fun q => absurd q (by decide +kernel))
            refine wp_iinc1 (ls1 := [_, _, _, _, some _]) dX11_alike_85 rfl (by decide) rfl ?_
            refine wp_goto dX11_alike_88 ?_
            exact ih (u + 1) _ _ _ _ _ _ _ _ (by omega) (((hf1.up (by decide) (Nat.le_refl _)).tr (f1.up (by decide) (Nat.le_refl _))).tr (f3.up (by decide) (Nat.le_refl _))) e1_3 zg_3 le1_3 le_3.z (lt_s hno ((alk_s ecx1).trans (decide_eq_false lk4))) (by omega)
  exact hloop (p + 1) 0 _ _ _ _ _ _ _ h (by omega) cFr.rf e9 zg le zo (fun j hj => absurd hj (Nat.not_lt_zero j)) (by omega)
set_option maxRecDepth 20000 in
theorem pX11_alike {h : mH} {Q : Option Value → mH → Prop} {ow : Nat → Nat} {F fa o1 d1 u1 : Nat} {pa my : Nat → Int32} {r : Nat → Int64} {pl : Nat → Int64} {gb ge : Int32} {gs gn : Int64} {gf gt : Int32} {lb : Nat → Int32} {lc : Int32} {lb2 : Nat → Int32} {lc2 : Int32} {x y : Int32} (e9 : eS ow h F pa my r fa o1 d1 u1) (hd : sOK r F pa my) (zg : zG ow h pl gb ge gs gn gf gt) (zl : zL ow h 121 3 lb lc) (zo : zL ow h 123 4 lb2 lc2) (hq : ∀ h', cFr [1, 3, 4] 0 ow h ow h' → (∃ pl gb ge gs gn gf gt, zG ow h' pl gb ge gs gn gf gt) → ((∃ lb lc, zL ow h' 121 3 lb lc) ∧ ∃ lb lc, zL ow h' 123 4 lb lc) → Q (some (.int (spAlike r F pa my x y))) h') : Wp mX11_alike 7 168 0 [some (.ref 0), some (.int x), some (.int y), none, none] [] h Q := by
  have hP6 := hd.w.1.2
  have hF4 := hd.f4
  have hz : ∀ h' z, cFr [1, 3, 4] 0 ow h ow h' → (∃ pl gb ge gs gn gf gt, zG ow h' pl gb ge gs gn gf gt) → ((∃ lb lc, zL ow h' 121 3 lb lc) ∧ ∃ lb lc, zL ow h' 123 4 lb lc) → spAlike r F pa my x y = z → Q (some (.int z)) h' := fun h' z f1 g l e => e ▸ hq h' f1 g l
  refine wp_aload_n dX11_alike_0 rfl rfl ?_
  refine wp_iload_n dX11_alike_1 rfl rfl ?_
  refine wp_iload_n dX11_alike_2 rfl rfl ?_
  refine wp_cV2 6 146 [some _, some _, some _] dX11_alike_3 tX11_spellPage rfl (by decide) nX11_spellPage vX11_spellPage lX11_344 ⟨by decide, by decide⟩ (Nat.le_of_ble_eq_true rfl) e9.oo (Nat.le_of_ble_eq_true rfl) rfl ?_
  refine pX11_spellPage e9 hd zg zl (fun hh1 p1 f1 c1 fr1 gg1 hp1 hff1 ep1 ef1 hl1 ec1 le1 => ?_) (fun hh1 fr1 gg1 le1 no1 => ?_)
  · subst ep1
    subst ef1
    intro _ _
    obtain ⟨_, _, _, _, _, _, _, zg_1⟩ := gg1
    have e9_1 := e9.fr fr1 (by decide)
    have zo_1 := zo.fr fr1 (rnS (by omega) (rnS (by omega) rn0))
    refine wp_if_ne dX11_alike_6 (fun _ => ?_) (fun q => absurd q (by decide +kernel))
    refine wp_aload_n dX11_alike_11 rfl rfl ?_
    refine wp_getR dX11_alike_12 lX11_34 rfl e9_1.oo e9_1.r6 ?_
    refine wp_cV0 2 43 [some _] dX11_alike_15 tX3_now rfl (by decide) nX3_now vX3_now lX11_101 ⟨by decide, by decide⟩ (Nat.le_of_ble_eq_true rfl) e9_1.hh.o (Nat.le_of_ble_eq_true rfl) rfl ?_
    refine pX3_now e9_1.hh e9_1.kb e9_1.od.1 e9_1.od.2 ?_
    intro _ _
    refine wp_astore_n (ls1 := [_, _, _, some _, _]) dX11_alike_18 rfl (by decide) rfl ?_
    refine wp_iconst (v := (nI 0)) dX11_alike_19 (by decide +kernel) ?_
    refine wp_istore (ls1 := [_, _, _, _, some _]) dX11_alike_20 (by decide) rfl ?_
    refine alikeC_loop e9_1 hd zg_1 le1 ⟨_, _, zo_1⟩ (by omega) (by omega) (fun h9 v9 f9 g9 l9 e9 => ?_)
    exact hz _ _ ((fr1.up (by decide) (Nat.le_refl _)).tr f9) g9 l9 (alk_v (cn_s (by omega) hP6 (by omega) hF4 hl1) ec1 e9)
  · intro _ _
    obtain ⟨_, _, _, _, _, _, _, zg_1⟩ := gg1
    obtain ⟨_, _, zl1⟩ := le1
    have e9_1 := e9.fr fr1 (by decide)
    have zo_1 := zo.fr fr1 (rnS (by omega) (rnS (by omega) rn0))
    refine wp_if_ne dX11_alike_6 (fun q => absurd q (by decide +kernel)) (fun _ => ?_)
    refine wp_iconst (v := (-1)) dX11_alike_9 (by decide +kernel) ?_
    refine wp_ireturn dX11_alike_10 rfl ?_
    exact hz _ _ (fr1.up (by decide) (Nat.le_refl _)) ⟨_, _, _, _, _, _, _, zg_1⟩ ⟨⟨_, _, zl1⟩, ⟨_, _, zo_1⟩⟩ (no_Alike (i := 0) (no_cn hF4 hP6 no1))
set_option maxRecDepth 20000 in
theorem sturdyC_loop {h : mH} {Q : Option Value → mH → Prop} {ow : Nat → Nat} {F fa o1 d1 u1 : Nat} {pa my : Nat → Int32} {r : Nat → Int64} {pl : Nat → Int64} {gb ge : Int32} {gs gn : Int64} {gf gt : Int32} {p f qp : Nat} {L : List Int32} (e9 : eS ow h F pa my r fa o1 d1 u1) (hd : sOK r F pa my) (zg : zG ow h pl gb ge gs gn gf gt) (le : ltR ow h 121 3 L) (zo : ∃ lb lc, zL ow h 123 4 lb lc) (hp : p < rP r) (hf : f < F) (pg : pgR ow h qp r p) (hLn : L ≠ []) (K9 : ∀ h' v, cFr [1, 3, 4] 0 ow h ow h' → (∃ pl gb ge gs gn gf gt, zG ow h' pl gb ge gs gn gf gt) → ((∃ lb lc, zL ow h' 121 3 lb lc) ∧ ∃ lb lc, zL ow h' 123 4 lb lc) → cntB (stuB r pa my p f L) (rT r p) = v → Q (some (.int (nI v))) h') : Wp mX11_sturdy 7 168 43 [some (.ref 0), some (.int (nI p)), some (.int (nI f)), some (.ref qp), some (.int (nI (rT r p))), some (.int (nI (cntB (stuB r pa my p f L) 0))), some (.int (nI 0))] [] h Q := by
  have hP6 := hd.w.1.2
  have hF4 := hd.f4
  have hT40 := (hd.w.2.1 p (by omega)).2
  have hloop : ∀  (t9 : Nat) (u : Nat) (pl1 : Nat → Int64) (gb1 : Int32) (ge1 : Int32) (gs1 : Int64) (gn1 : Int64) (gf1 : Int32) (gt1 : Int32) (h1 : mH), (u ≤ rT r p) → (cFr [1, 3, 4] 0 ow h ow h1) → (eS ow h1 F pa my r fa o1 d1 u1) → (zG ow h1 pl1 gb1 ge1 gs1 gn1 gf1 gt1) → (ltR ow h1 121 3 L) → (∃ lb lc, zL ow h1 123 4 lb lc) → (pgR ow h1 qp r p) → (rT r p < u + t9) → Wp mX11_sturdy 7 168 43 [some (.ref 0), some (.int (nI p)), some (.int (nI f)), some (.ref qp), some (.int (nI (rT r p))), some (.int (nI (cntB (stuB r pa my p f L) u))), some (.int (nI u))] [] h1 Q := by
    intro t9
    induction t9 with
    | zero => intros; omega
    | succ t9 ih =>
      intro u pl1 gb1 ge1 gs1 gn1 gf1 gt1 h1 hu hf1 e1 zg1 le1 zo0 pg1 hmz
      obtain ⟨lb1, lc1, zo1⟩ := zo0
      refine wp_iload dX11_sturdy_43 rfl ?_
      refine wp_iload dX11_sturdy_45 rfl ?_
      refine wp_icmp_geN dX11_sturdy_47 rfl rfl ⟨by omega, by omega⟩ (fun c2 => ?_) (fun c2 => ?_)
      · refine wp_iload dX11_sturdy_109 rfl ?_
        refine wp_ireturn dX11_sturdy_111 rfl ?_
        have eu9 : u = rT r p := by omega
        subst eu9
        exact K9 _ _ (hf1.up (by decide) (Nat.le_refl _)) ⟨_, _, _, _, _, _, _, zg1⟩ ⟨le1.z, ⟨_, _, zo1⟩⟩ rfl
      · refine wp_aload_n dX11_sturdy_50 rfl rfl ?_
        refine wp_iload_n dX11_sturdy_51 rfl rfl ?_
        refine wp_iload_n dX11_sturdy_52 rfl rfl ?_
        refine wp_iload dX11_sturdy_53 rfl ?_
        refine wp_cV3 5 119 [some _, some _, some _, some _, none, none, none, none] dX11_sturdy_55 tX11_slicePage rfl (by decide) nX11_slicePage vX11_slicePage lX11_335 ⟨by decide, by decide⟩ (Nat.le_of_ble_eq_true rfl) e1.oo (Nat.le_of_ble_eq_true rfl) rfl ?_
        refine pX11_slicePage e1 hd zg1 (by omega) (by omega) (fun hh1 pl1 gb1 ge1 gf1 gt1 v1 f1 zg_1 gp1 ev1 => ?_)
        intro _ _
        have e1_1 := e1.fr f1 (by decide)
        have le1_1 := le1.fr f1 (rnS (by omega) rn0)
        have zo1_1 := zo1.fr f1 (rnS (by omega) rn0)
        have pg1_1 := pg1.fr f1 (rnS (by omega) rn0)
        refine wp_iconst (v := (-1)) dX11_sturdy_58 (by decide +kernel) ?_
        cases ecx1 : cuX r pa my p (nI u) f with
        | none =>
          rw [ecx1] at zg_1 ev1
          subst ev1
          refine wp_icmp_eq dX11_sturdy_59 (fun _ => ?_) (fun q => absurd rfl q)
          refine wp_iinc1 (ls1 := [_, _, _, _, _, _, some _]) dX11_sturdy_103 rfl (by decide) rfl ?_
          refine wp_goto dX11_sturdy_106 ?_
          have ec9 : cntB (stuB r pa my p f L) (u + 1) = cntB (stuB r pa my p f L) u := cntB_s0 (stu_0 hLn ecx1)
          rw [← ec9]
          exact ih (u + 1) _ _ _ _ _ _ _ _ (by omega) ((hf1.up (by decide) (Nat.le_refl _)).tr (f1.up (by decide) (Nat.le_refl _))) e1_1 zg_1 le1_1 ⟨_, _, zo1_1⟩ pg1_1 (by omega)
        | some x1 =>
          have hx1 := cuX_ok hd (by omega) x1 ecx1
          have hb1 := cuX_lt hd (by omega) x1 ecx1
          have sr1 := srt_cu (but := (nI u)) (p := p) (f := f) hd (by omega)
          have l81 := cu_8 (but := (nI u)) (p := p) (f := f) hd (by omega)
          rw [ecx1] at sr1 l81 zg_1 ev1
          subst ev1
          refine wp_icmp_eq dX11_sturdy_59 (fun q => absurd q (nI_ne_m1 (by omega))) (fun _ => ?_)
          refine wp_aload_n dX11_sturdy_62 rfl rfl ?_
          refine wp_getR dX11_sturdy_63 lX11_78 rfl e1_1.oo e1_1.r13 ?_
          refine wp_aload_n dX11_sturdy_66 rfl rfl ?_
          refine wp_iload dX11_sturdy_67 rfl ?_
          refine wp_aload_n dX11_sturdy_69 rfl rfl ?_
          refine wp_getR dX11_sturdy_70 lX11_60 rfl e1_1.oo e1_1.r10 ?_
          refine wp_getLV dX11_sturdy_73 lX11_339 rfl zg_1.o zg_1.f3 ?_
          refine wp_aload_n dX11_sturdy_76 rfl rfl ?_
          refine wp_getR dX11_sturdy_77 lX11_60 rfl e1_1.oo e1_1.r10 ?_
          refine wp_getLV dX11_sturdy_80 lX11_342 rfl zg_1.o zg_1.f4 ?_
          refine wp_cV4 3 67 [some _, some _, some _, some _, none, some _, none, none, none, none, none, none] dX11_sturdy_83 tX5_spell rfl (by decide) nX5_spell vX5_spell lX11_354 ⟨by decide, by decide⟩ (Nat.le_of_ble_eq_true rfl) zo1_1.o (Nat.le_of_ble_eq_true rfl) rfl ?_
          refine pX5_spell zo1_1 (by decide) hd (by omega) pg1_1 (Or.inr ⟨_, by omega, rfl⟩) sr1 l81 (fun hh2 f2 le_2 => ?_)
          intro _ _
          have e1_2 := e1_1.fr f2 (by decide)
          have zg_2 := zg_1.fr f2 (rnS (by omega) rn0)
          have le1_2 := le1_1.fr f2 (rnS (by omega) rn0)
          have pg1_2 := pg1_1.fr f2 (rnS (by omega) rn0)
          refine wp_aload_n dX11_sturdy_86 rfl rfl ?_
          refine wp_getR dX11_sturdy_87 lX11_78 rfl e1_2.oo e1_2.r13 ?_
          refine wp_aload_n dX11_sturdy_90 rfl rfl ?_
          refine wp_getR dX11_sturdy_91 lX11_74 rfl e1_2.oo e1_2.r12 ?_
          refine wp_cV1 0 0 [some _, some _, none] dX11_sturdy_94 tX5_isLike rfl (by decide) nX5_isLike vX5_isLike lX11_358 ⟨by decide, by decide⟩ (Nat.le_of_ble_eq_true rfl) le_2.oo (Nat.le_of_ble_eq_true rfl) rfl ?_
          refine pX5_isLike le_2 le1_2 (fun lk3 => ?_) (fun lk3 => ?_)
          · intro _ _
            refine wp_if_eq dX11_sturdy_97 (fun q => absurd q (by decide +kernel)) (fun _ => ?_)
            refine wp_iinc1 (ls1 := [_, _, _, _, _, some _, _]) dX11_sturdy_100 rfl (by decide) rfl ?_
            refine wp_iinc1 (ls1 := [_, _, _, _, _, _, some _]) dX11_sturdy_103 rfl (by decide) rfl ?_
            refine wp_goto dX11_sturdy_106 ?_
            have ec9 : cntB (stuB r pa my p f L) (u + 1) = cntB (stuB r pa my p f L) u + 1 := cntB_s1 ((stu_s ecx1).trans (decide_eq_true lk3))
            rw [← ec9]
            exact ih (u + 1) _ _ _ _ _ _ _ _ (by omega) (((hf1.up (by decide) (Nat.le_refl _)).tr (f1.up (by decide) (Nat.le_refl _))).tr (f2.up (by decide) (Nat.le_refl _))) e1_2 zg_2 le1_2 le_2.z pg1_2 (by omega)
          · intro _ _
            refine wp_if_eq dX11_sturdy_97 (fun _ => ?_) (fun q => absurd q (by decide +kernel))
            refine wp_iinc1 (ls1 := [_, _, _, _, _, _, some _]) dX11_sturdy_103 rfl (by decide) rfl ?_
            refine wp_goto dX11_sturdy_106 ?_
            have ec9 : cntB (stuB r pa my p f L) (u + 1) = cntB (stuB r pa my p f L) u := cntB_s0 ((stu_s ecx1).trans (decide_eq_false lk3))
            rw [← ec9]
            exact ih (u + 1) _ _ _ _ _ _ _ _ (by omega) (((hf1.up (by decide) (Nat.le_refl _)).tr (f1.up (by decide) (Nat.le_refl _))).tr (f2.up (by decide) (Nat.le_refl _))) e1_2 zg_2 le1_2 le_2.z pg1_2 (by omega)
  exact hloop (rT r p + 1) 0 _ _ _ _ _ _ _ h (by omega) cFr.rf e9 zg le zo pg (by omega)
set_option maxRecDepth 20000 in
theorem pX11_sturdy {h : mH} {Q : Option Value → mH → Prop} {ow : Nat → Nat} {F fa o1 d1 u1 : Nat} {pa my : Nat → Int32} {r : Nat → Int64} {pl : Nat → Int64} {gb ge : Int32} {gs gn : Int64} {gf gt : Int32} {lb : Nat → Int32} {lc : Int32} {lb2 : Nat → Int32} {lc2 : Int32} {x y : Int32} (e9 : eS ow h F pa my r fa o1 d1 u1) (hd : sOK r F pa my) (zg : zG ow h pl gb ge gs gn gf gt) (zl : zL ow h 121 3 lb lc) (zo : zL ow h 123 4 lb2 lc2) (hq : ∀ h', cFr [1, 3, 4] 0 ow h ow h' → (∃ pl gb ge gs gn gf gt, zG ow h' pl gb ge gs gn gf gt) → ((∃ lb lc, zL ow h' 121 3 lb lc) ∧ ∃ lb lc, zL ow h' 123 4 lb lc) → Q (some (.int (spSturdy r F pa my x y))) h') : Wp mX11_sturdy 7 168 0 [some (.ref 0), some (.int x), some (.int y), none, none, none, none] [] h Q := by
  have hP6 := hd.w.1.2
  have hF4 := hd.f4
  have hz : ∀ h' z, cFr [1, 3, 4] 0 ow h ow h' → (∃ pl gb ge gs gn gf gt, zG ow h' pl gb ge gs gn gf gt) → ((∃ lb lc, zL ow h' 121 3 lb lc) ∧ ∃ lb lc, zL ow h' 123 4 lb lc) → spSturdy r F pa my x y = z → Q (some (.int z)) h' := fun h' z f1 g l e => e ▸ hq h' f1 g l
  refine wp_aload_n dX11_sturdy_0 rfl rfl ?_
  refine wp_iload_n dX11_sturdy_1 rfl rfl ?_
  refine wp_iload_n dX11_sturdy_2 rfl rfl ?_
  refine wp_cV2 6 146 [some _, some _, some _] dX11_sturdy_3 tX11_spellPage rfl (by decide) nX11_spellPage vX11_spellPage lX11_344 ⟨by decide, by decide⟩ (Nat.le_of_ble_eq_true rfl) e9.oo (Nat.le_of_ble_eq_true rfl) rfl ?_
  refine pX11_spellPage e9 hd zg zl (fun hh1 p1 f1 c1 fr1 gg1 hp1 hff1 ep1 ef1 hl1 ec1 le1 => ?_) (fun hh1 fr1 gg1 le1 no1 => ?_)
  · subst ep1
    subst ef1
    intro _ _
    obtain ⟨_, _, _, _, _, _, _, zg_1⟩ := gg1
    have e9_1 := e9.fr fr1 (by decide)
    have zo_1 := zo.fr fr1 (rnS (by omega) (rnS (by omega) rn0))
    refine wp_if_ne dX11_sturdy_6 (fun _ => ?_) (fun q => absurd q (by decide +kernel))
    refine wp_aload_n dX11_sturdy_11 rfl rfl ?_
    refine wp_getR dX11_sturdy_12 lX11_34 rfl e9_1.oo e9_1.r6 ?_
    refine wp_cV0 2 43 [some _] dX11_sturdy_15 tX3_now rfl (by decide) nX3_now vX3_now lX11_101 ⟨by decide, by decide⟩ (Nat.le_of_ble_eq_true rfl) e9_1.hh.o (Nat.le_of_ble_eq_true rfl) rfl ?_
    refine pX3_now e9_1.hh e9_1.kb e9_1.od.1 e9_1.od.2 ?_
    intro _ _
    refine wp_iload_n dX11_sturdy_18 rfl rfl ?_
    refine wp_cV1 0 0 [some _, some _] dX11_sturdy_19 tX8_pageAt rfl (by decide) nX8_pageAt vX8_pageAt lX11_176 ⟨by decide, by decide⟩ (Nat.le_of_ble_eq_true rfl) e9_1.st.oo (Nat.le_of_ble_eq_true rfl) rfl ?_
    refine pX8_pageAt e9_1.st hP6 (fun p2 q2 hp2 ep2 pg2 => ?_) (fun xn2 => absurd xn2 (by rw [ix_nI (by omega) (by omega)]; exact fun z => by cases z))
    have ep2 := (nI_eq (by omega) (by omega)).mp ep2
    subst ep2
    intro _ _
    refine wp_astore_n (ls1 := [_, _, _, some _, _, _, _]) dX11_sturdy_22 rfl (by decide) rfl ?_
    refine wp_aload_n dX11_sturdy_23 rfl rfl ?_
    refine wp_ifnonnull dX11_sturdy_24 ?_
    refine wp_aload_n dX11_sturdy_31 rfl rfl ?_
    refine wp_getIV dX11_sturdy_32 lX11_180 rfl pg2.oo pg2.f0 ?_
    refine wp_istore (ls1 := [_, _, _, _, some _, _, _]) dX11_sturdy_35 (by decide) rfl ?_
    refine wp_iconst (v := (nI 0)) dX11_sturdy_37 (by decide +kernel) ?_
    refine wp_istore (ls1 := [_, _, _, _, _, some _, _]) dX11_sturdy_38 (by decide) rfl ?_
    refine wp_iconst (v := (nI 0)) dX11_sturdy_40 (by decide +kernel) ?_
    refine wp_istore (ls1 := [_, _, _, _, _, _, some _]) dX11_sturdy_41 (by decide) rfl ?_
    refine sturdyC_loop (f := f1) e9_1 hd zg_1 le1 ⟨_, _, zo_1⟩ (by omega) (by omega) pg2 (lt_ne hd (by omega) (by omega) ec1) (fun h9 v9 f9 g9 l9 e9 => ?_)
    exact hz _ _ ((fr1.up (by decide) (Nat.le_refl _)).tr f9) g9 l9 ((stu_v (cn_s (by omega) hP6 (by omega) hF4 hl1) ec1).trans (congrArg nI e9))
  · intro _ _
    obtain ⟨_, _, _, _, _, _, _, zg_1⟩ := gg1
    obtain ⟨_, _, zl1⟩ := le1
    have e9_1 := e9.fr fr1 (by decide)
    have zo_1 := zo.fr fr1 (rnS (by omega) (rnS (by omega) rn0))
    refine wp_if_ne dX11_sturdy_6 (fun q => absurd q (by decide +kernel)) (fun _ => ?_)
    refine wp_iconst (v := (-1)) dX11_sturdy_9 (by decide +kernel) ?_
    refine wp_ireturn dX11_sturdy_10 rfl ?_
    exact hz _ _ (fr1.up (by decide) (Nat.le_refl _)) ⟨_, _, _, _, _, _, _, zg_1⟩ ⟨⟨_, _, zl1⟩, ⟨_, _, zo_1⟩⟩ (no_Sturdy (i := 0) (no_cn hF4 hP6 no1))
