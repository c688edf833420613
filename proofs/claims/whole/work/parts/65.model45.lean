/-! ===== opinions ===== -/
def rgX (r : Nat → Int64) (pa my : Nat → Int32) (p f : Nat) : Option (Nat × Nat) := if pa f = -1 then some (0, rT r p) else match cuX r pa my p (-1) (nOfI (pa f)) with
  | some c => some (hd2 c.2)
  | none => none
/-- what a rule would cut of a page -/
def vtL (r : Nat → Int64) (pa my : Nat → Int32) (p f k : Nat) : List (Nat × Nat) := match rgX r pa my p f with
  | some ab => cutL (pmR r p (-1)) ab.2 (itm (kI k 0)) (itm (kI k 1)) (itm (kI k 2)) (itm (kI k 3)) (mzN (my f)) ab.1
  | none => []
def gdB (r : Nat → Int64) (pa my : Nat → Int32) (f S k : Nat) : Bool := decide (tvm r pa my f S 2 k 6 = 0 ∧ tvm r pa my f S 1 k 6 ≠ 0)
/-- N opinions of the first t rules, their votes, their first keys -/
def voP (g : Nat → Bool) (lk : Nat → List (Nat × Nat)) (K : Nat → Nat) (t N : Nat) (OL : Nat → List (Nat × Nat)) (V FK : Nat → Nat) : Prop := N ≤ t ∧ (∀ i, i < t → g i = true → ∃ o, o < N ∧ OL o = lk i) ∧ ∀ o, o < N → V o = cntB (fun i => g i && decide (lk i = OL o)) t ∧ (∃ i, i < t ∧ g i = true ∧ lk i = OL o ∧ K i = FK o) ∧ ∀ i, i < t → g i = true → lk i = OL o → FK o ≤ K i
theorem cntB_f : ∀ t, cntB (fun _ => false) t = 0
  | 0 => rfl
  | n + 1 => (cntB_s0 rfl).trans (cntB_f n)
theorem voP_0 {g : Nat → Bool} {lk : Nat → List (Nat × Nat)} {K : Nat → Nat} {OL : Nat → List (Nat × Nat)} {V FK : Nat → Nat} : voP g lk K 0 0 OL V FK := ⟨Nat.le_refl _, fun i hi => by omega, fun o ho => by omega⟩
theorem voP_skip {g : Nat → Bool} {lk : Nat → List (Nat × Nat)} {K : Nat → Nat} {t N : Nat} {OL : Nat → List (Nat × Nat)} {V FK : Nat → Nat} (q : voP g lk K t N OL V FK) (h : g t = false) : voP g lk K (t + 1) N OL V FK := by
  refine ⟨by have := q.1; omega, fun i hi hg => ?_, fun o ho => ?_⟩
  · by_cases e : i = t
    · rw [e, h] at hg
      cases hg
    · exact q.2.1 i (by omega) hg
  · obtain ⟨h1, ⟨i, hi, h2⟩, h3⟩ := q.2.2 o ho
    refine ⟨?_, ⟨i, by omega, h2⟩, fun i hi hg e => ?_⟩
    · rw [cntB_s0 (by rw [h]; rfl)]
      exact h1
    · by_cases e9 : i = t
      · rw [e9, h] at hg
        cases hg
      · exact h3 i (by omega) hg e
theorem voP_new {g : Nat → Bool} {lk : Nat → List (Nat × Nat)} {K : Nat → Nat} {t N : Nat} {OL : Nat → List (Nat × Nat)} {V FK : Nat → Nat} (q : voP g lk K t N OL V FK) (h : g t = true) (hno : ∀ o, o < N → OL o ≠ lk t) : voP g lk K (t + 1) (N + 1) (upN OL N (lk t)) (upN V N 1) (upN FK N (K t)) := by
  have hc : ∀ i, i < t → g i = true → lk i ≠ lk t := fun i hi hg e => by
    obtain ⟨o, ho, e2⟩ := q.2.1 i hi hg
    exact hno o ho (e2.trans e)
  refine ⟨by have := q.1; omega, fun i hi hg => ?_, fun o ho => ?_⟩
  · by_cases e : i = t
    · subst e
      exact ⟨N, by omega, upN_at _ _ _⟩
    · obtain ⟨o, ho, e2⟩ := q.2.1 i (by omega) hg
      exact ⟨o, by omega, by rw [upN_ne (by omega)]; exact e2⟩
  · by_cases c : o = N
    · subst c
      rw [upN_at, upN_at, upN_at]
      refine ⟨?_, ⟨t, by omega, h, rfl, rfl⟩, fun i hi hg e => ?_⟩
      · rw [cntB_s1 (by rw [h, decide_eq_true rfl]; rfl)]
        have z : cntB (fun i => g i && decide (lk i = lk t)) t = 0 := by
          rw [cntB_cg (P' := fun _ => false) t (fun i hi => by
            cases hg : g i with
            | false => rfl
            | true => rw [decide_eq_false (hc i hi hg)]; rfl)]
          exact cntB_f t
        rw [z]
      · by_cases e9 : i = t
        · rw [e9]
          exact Nat.le_refl _
        · exact absurd e (hc i (by omega) hg)
    · rw [upN_ne c, upN_ne c, upN_ne c]
      obtain ⟨h1, ⟨i, hi, h2⟩, h3⟩ := q.2.2 o (by omega)
      refine ⟨?_, ⟨i, by omega, h2⟩, fun i hi hg e => ?_⟩
      · rw [cntB_s0 (by rw [decide_eq_false (fun z => hno o (by omega) z.symm), Bool.and_false])]
        exact h1
      · by_cases e9 : i = t
        · rw [e9] at e
          exact absurd e.symm (hno o (by omega))
        · exact h3 i (by omega) hg e
theorem voP_old {g : Nat → Bool} {lk : Nat → List (Nat × Nat)} {K : Nat → Nat} {t N j : Nat} {OL : Nat → List (Nat × Nat)} {V FK : Nat → Nat} (q : voP g lk K t N OL V FK) (hd : ∀ o o', o < N → o' < N → OL o = OL o' → o = o') (h : g t = true) (hj : j < N) (hl : OL j = lk t) : voP g lk K (t + 1) N OL (upN V j (V j + 1)) (upN FK j (min (FK j) (K t))) := by
  refine ⟨by have := q.1; omega, fun i hi hg => ?_, fun o ho => ?_⟩
  · by_cases e : i = t
    · subst e
      exact ⟨j, hj, hl⟩
    · exact q.2.1 i (by omega) hg
  · obtain ⟨h1, ⟨i, hi, h2, h4, h5⟩, h3⟩ := q.2.2 o ho
    by_cases c : o = j
    · subst c
      rw [upN_at, upN_at]
      refine ⟨?_, ?_, fun i' hi' hg e => ?_⟩
      · rw [cntB_s1 (by rw [h, decide_eq_true hl.symm]; rfl), h1]
      · rcases Nat.le_total (FK o) (K t) with z | z
        · exact ⟨i, by omega, h2, h4, by rw [Nat.min_eq_left z]; exact h5⟩
        · exact ⟨t, by omega, h, hl.symm, by rw [Nat.min_eq_right z]⟩
      · by_cases e9 : i' = t
        · rw [e9]
          omega
        · have := h3 i' (by omega) hg e
          omega
    · rw [upN_ne c, upN_ne c]
      refine ⟨?_, ⟨i, by omega, h2, h4, h5⟩, fun i' hi' hg e => ?_⟩
      · rw [cntB_s0 (by rw [decide_eq_false (fun z => c (hd o j ho hj (z.symm.trans hl.symm))), Bool.and_false])]
        exact h1
      · by_cases e9 : i' = t
        · rw [e9] at e
          exact absurd (hd o j ho hj (e.symm.trans hl.symm)) c
        · exact h3 i' (by omega) hg e
theorem vtL_ok {r : Nat → Int64} {F : Nat} {pa my : Nat → Int32} {p f : Nat} (hd : sOK r F pa my) (hf : f < F) (hp : p < 6) {ab : Nat × Nat} (h : rgX r pa my p f = some ab) : ab.1 ≤ ab.2 ∧ ab.2 ≤ (rowL (-1) (rT r p)).length := by
  have hT := (hd.w.2.1 p hp).2
  unfold rgX at h
  split at h
  · cases h
    refine ⟨Nat.zero_le _, ?_⟩
    rw [rowL_m1 (rT r p) (by omega), List.length_range]
    exact Nat.le_refl _
  · rename_i c
    rcases hd.par f hf with e | ⟨g, hg, e, _⟩
    · exact absurd e c
    · rw [e, nOfI_nI (by have := hd.f4; omega)] at h
      cases c2 : cuX r pa my p (-1) g with
      | none =>
        rw [c2] at h
        cases h
      | some y =>
        rw [c2] at h
        cases h
        have := crX_ok hd 4 g (by omega) (by have := hd.f4; omega) y c2
        exact ⟨Nat.le_of_lt this.2.2.1, this.2.2.2⟩
set_option maxRecDepth 20000 in
theorem pX12_laysRegion {h : mH} {Q : Option Value → mH → Prop} {r : Nat → Int64} {F : Nat} {pa my : Nat → Int32} {p f : Nat} (hc : mC h r F pa my) (hd : sOK r F pa my) (hf : f < F) (hp : p < rP r) (ht : ∀ h' ab, mFr (mP [24, 32, 35, 50, 61, 62] [163, 164, 165, 167, 168, 169, 170, 182]) h h' → rgX r pa my p f = some ab → numX r h' → hI h' 153 61 = nI ab.1 → hI h' 153 62 = nI ab.2 → Q (some (.int (nI 1))) h') (hf0 : ∀ h', mFr (mP [24, 32, 35, 50, 61, 62] [163, 164, 165, 167, 168, 169, 170, 182]) h h' → rgX r pa my p f = none → numX r h' → Q (some (.int (nI 0))) h') : Wp mX12_laysRegion 7 176 0 [some (.ref 153), some (.int (nI p)), some (.int (nI f))] [] h Q := by
  have hF4 := hd.f4
  have hP6 := hd.w.1.2
  have hT40 := (hd.w.2.1 p (by omega)).2
  refine wp_aload_n dX12_laysRegion_0 rfl rfl ?_
  refine wp_cV0 3 64 [some _, none, none, none, none] dX12_laysRegion_1 tX12_laysNumbers rfl (by decide) nX12_laysNumbers vX12_laysNumbers lX12_289 ⟨by decide, by decide⟩ (Nat.le_of_ble_eq_true rfl) (mO hc.1) (Nat.le_of_ble_eq_true rfl) rfl ?_
  refine pX12_laysNumbers' hc hd (fun hh1 f1 nx1 => ?_)
  intro _ _
  have mc1 := hc.fr f1 (by decide) (by decide) (by decide) (by decide) (by decide)
  refine wp_aload_n dX12_laysRegion_4 rfl rfl ?_
  refine wp_iload_n dX12_laysRegion_5 rfl rfl ?_
  refine wp_iconst (v := (-1)) dX12_laysRegion_6 (by decide +kernel) ?_
  refine wp_cV2 1 21 [some _, some _, some _, none] dX12_laysRegion_7 tX12_laysRow rfl (by decide) nX12_laysRow vX12_laysRow lX12_344 ⟨by decide, by decide⟩ (Nat.le_of_ble_eq_true rfl) (mO mc1.1) (Nat.le_of_ble_eq_true rfl) rfl ?_
  refine pX12_laysRow' mc1 hd nx1 (by omega) (fun hh2 f2 rx2 => ?_)
  intro _ _
  have mc2 := mc1.fr f2 (by decide) (by decide) (by decide) (by decide) (by decide)
  have nx2 := nx1.fr f2 (by decide) (by decide)
  refine wp_aload_n dX12_laysRegion_10 rfl rfl ?_
  refine wp_iconst (v := (nI 0)) dX12_laysRegion_11 (by decide +kernel) ?_
  refine wp_putI dX12_laysRegion_12 lX12_506 rfl (Or.inl rfl) (mO mc2.1) rfl rfl ?_
  refine sealI (fun hh3 f3 e3 => ?_)
  have mc3 := mc2.fr f3 (by decide) (by decide) (by decide) (by decide) (by decide)
  have nx3 := nx2.fr f3 (by decide) (by decide)
  have rx3 := rx2.fr f3 (by decide) (by decide)
  refine wp_aload_n dX12_laysRegion_15 rfl rfl ?_
  refine wp_aload_n dX12_laysRegion_16 rfl rfl ?_
  refine wp_getIV dX12_laysRegion_17 lX12_324 rfl (mO mc3.1) rx3.1 ?_
  refine wp_putI dX12_laysRegion_20 lX12_509 rfl (Or.inl rfl) (mO mc3.1) rfl rfl ?_
  refine sealI (fun hh4 f4 e4 => ?_)
  have mc4 := mc3.fr f4 (by decide) (by decide) (by decide) (by decide) (by decide)
  have nx4 := nx3.fr f4 (by decide) (by decide)
  have rx4 := rx3.fr f4 (by decide) (by decide)
  have efI61_4 := (f4.fI 61 (by decide) (by decide)).trans e3
  refine wp_aload_n dX12_laysRegion_23 rfl rfl ?_
  refine wp_getR dX12_laysRegion_24 lX12_33 rfl (mO mc4.1) (mR_parent mc4.1) ?_
  refine wp_iload_n dX12_laysRegion_27 rfl rfl ?_
  refine wp_ialdV dX12_laysRegion_28 (mA_parent mc4.1) rfl ⟨by omega, by decide⟩ (congrFun mc4.2.2.2.1 f) ?_
  rcases hd.par f hf with ep | ⟨g, hg, ep, mg⟩
  · rw [ep]
    refine wp_iconst (v := (-1)) dX12_laysRegion_29 (by decide +kernel) ?_
    refine wp_icmp_ne dX12_laysRegion_30 (fun q => absurd q (by decide +kernel)) (fun _ => ?_)
    refine wp_iconst (v := (nI 1)) dX12_laysRegion_33 (by decide +kernel) ?_
    refine wp_zreturn dX12_laysRegion_34 rfl (Or.inr rfl) ?_
    refine ht _ (0, rT r p) ((((f1.up (by decide) (by decide)).tr (f2.up (by decide) (by decide))).tr (f3.up (by decide) (by decide))).tr (f4.up (by decide) (by decide))) (if_pos ep) nx4 efI61_4 (e4.trans (congrArg nI (by rw [rowL_m1 (rT r p) (by omega), List.length_range])))
  · rw [ep]
    refine wp_iconst (v := (-1)) dX12_laysRegion_29 (by decide +kernel) ?_
    refine wp_icmp_ne dX12_laysRegion_30 (fun _ => ?_) (fun q => absurd q (nI_ne_m1 (by omega)))
    refine wp_aload_n dX12_laysRegion_35 rfl rfl ?_
    refine wp_aload_n dX12_laysRegion_36 rfl rfl ?_
    refine wp_getR dX12_laysRegion_37 lX12_33 rfl (mO mc4.1) (mR_parent mc4.1) ?_
    refine wp_iload_n dX12_laysRegion_40 rfl rfl ?_
    refine wp_ialdV dX12_laysRegion_41 (mA_parent mc4.1) rfl ⟨by omega, by decide⟩ ((congrFun mc4.2.2.2.1 f).trans ep) ?_
    refine wp_cV1 6 151 [some _, some _, none, none, none, none] dX12_laysRegion_42 tX12_cutsRow rfl (by decide) nX12_cutsRow vX12_cutsRow lX12_482 ⟨by decide, by decide⟩ (Nat.le_of_ble_eq_true rfl) (mO mc4.1) (Nat.le_of_ble_eq_true rfl) rfl ?_
    refine pX12_cutsRow mc4 hd (show g < F by omega) (by omega) rx4 (fun hh5 f5 k5 b5 => ?_)
    intro _ _
    have mc5 := mc4.fr f5 (by decide) (by decide) (by decide) (by decide) (by decide)
    have nx5 := nx4.fr f5 (by decide) (by decide)
    have rx5 := rx4.fr f5 (by decide) (by decide)
    have efI61_5 := (f5.fI 61 (by decide) (by decide)).trans efI61_4
    have efI62_5 := (f5.fI 62 (by decide) (by decide)).trans e4
    refine wp_aload_n dX12_laysRegion_45 rfl rfl ?_
    refine wp_getIV dX12_laysRegion_46 lX12_337 rfl (mO mc5.1) k5.1 ?_
    refine wp_if_neN dX12_laysRegion_49 rfl (by have := k5.2.1; omega) (fun c3 => ?_) (fun c3 => ?_)
    · obtain ⟨c9, hc9⟩ := cu_some hd (show g < F by omega) (by assumption)
      have hc8 : crX r pa my (pmR r p (-1)) (rowL (-1) (rT r p)).length g = some c9 := hc9
      refine wp_aload_n dX12_laysRegion_54 rfl rfl ?_
      refine wp_aload_n dX12_laysRegion_55 rfl rfl ?_
      refine wp_getR dX12_laysRegion_56 lX12_64 rfl (mO mc5.1) (mR_cutFrom mc5.1) ?_
      refine wp_iconst (v := (nI 0)) dX12_laysRegion_59 (by decide +kernel) ?_
      refine wp_ialdV dX12_laysRegion_60 (mA_cutFrom mc5.1) rfl ⟨by omega, by decide⟩ (k5.2.2 _ (by omega)).1 ?_
      refine wp_putI dX12_laysRegion_61 lX12_506 rfl (Or.inl rfl) (mO mc5.1) rfl rfl ?_
      refine sealI (fun hh6 f6 e6 => ?_)
      have mc6 := mc5.fr f6 (by decide) (by decide) (by decide) (by decide) (by decide)
      have nx6 := nx5.fr f6 (by decide) (by decide)
      have rx6 := rx5.fr f6 (by decide) (by decide)
      have k6 := k5.fr f6 (by decide) (by decide)
      have efI62_6 := (f6.fI 62 (by decide) (by decide)).trans efI62_5
      have efI50_6 := (f6.fI 50 (by decide) (by decide)).trans b5
      refine wp_aload_n dX12_laysRegion_64 rfl rfl ?_
      refine wp_aload_n dX12_laysRegion_65 rfl rfl ?_
      refine wp_getR dX12_laysRegion_66 lX12_67 rfl (mO mc6.1) (mR_cutTo mc6.1) ?_
      refine wp_iconst (v := (nI 0)) dX12_laysRegion_69 (by decide +kernel) ?_
      refine wp_ialdV dX12_laysRegion_70 (mA_cutTo mc6.1) rfl ⟨by omega, by decide⟩ (k6.2.2 _ (by omega)).2.1 ?_
      refine wp_putI dX12_laysRegion_71 lX12_509 rfl (Or.inl rfl) (mO mc6.1) rfl rfl ?_
      refine sealI (fun hh7 f7 e7 => ?_)
      have mc7 := mc6.fr f7 (by decide) (by decide) (by decide) (by decide) (by decide)
      have nx7 := nx6.fr f7 (by decide) (by decide)
      have rx7 := rx6.fr f7 (by decide) (by decide)
      have k7 := k6.fr f7 (by decide) (by decide)
      have efI50_7 := (f7.fI 50 (by decide) (by decide)).trans efI50_6
      have efI61_7 := (f7.fI 61 (by decide) (by decide)).trans e6
      refine wp_iconst (v := (nI 1)) dX12_laysRegion_74 (by decide +kernel) ?_
      refine wp_zreturn dX12_laysRegion_75 rfl (Or.inr rfl) ?_
      refine ht _ (hd2 c9.2) (((((((f1.up (by decide) (by decide)).tr (f2.up (by decide) (by decide))).tr (f3.up (by decide) (by decide))).tr (f4.up (by decide) (by decide))).tr (f5.up (by decide) (by decide))).tr (f6.up (by decide) (by decide))).tr (f7.up (by decide) (by decide))) ?_ nx7 (by have h9 := efI61_7; rw [hc8] at h9; exact h9) (by have h9 := e7; rw [hc8] at h9; exact h9)
      unfold rgX
      rw [if_neg (by rw [ep]; exact nI_ne_m1 (by omega)), ep, nOfI_nI (by omega), hc9]
    · have hn9 := cu_none hd (show g < F by omega) (by assumption)
      refine wp_iconst (v := (nI 0)) dX12_laysRegion_52 (by decide +kernel) ?_
      refine wp_zreturn dX12_laysRegion_53 rfl (Or.inl rfl) ?_
      refine hf0 _ (((((f1.up (by decide) (by decide)).tr (f2.up (by decide) (by decide))).tr (f3.up (by decide) (by decide))).tr (f4.up (by decide) (by decide))).tr (f5.up (by decide) (by decide))) ?_ nx5
      unfold rgX
      rw [if_neg (by rw [ep]; exact nI_ne_m1 (by omega)), ep, nOfI_nI (by omega), hn9]
set_option maxRecDepth 20000 in
theorem votes_loop1 {h : mH} {Q : Option Value → mH → Prop} {r : Nat → Int64} {F : Nat} {pa my : Nat → Int32} {p f S n a9 b9 : Nat} {K O : Nat → Nat} {T : Nat → Nat} {OL : Nat → List (Nat × Nat)} {V FK : Nat → Nat} (hc : mC h r F pa my) (hd : sOK r F pa my) (hf : f < F) (hp : p < rP r) (rl : ruL h r pa my f S n K O) (rx : rowX r h p (-1)) (vo : voH h 0 OL V FK T) (hrg : rgX r pa my p f = some (a9, b9)) (hab : a9 ≤ b9 ∧ b9 ≤ (rowL (-1) (rT r p)).length) (e61 : hI h 153 61 = nI a9) (e62 : hI h 153 62 = nI b9) (K9 : ∀ h' N OL V FK T, mFr (mP [35, 60] [169, 170, 185, 186, 187, 188, 189]) h h' → ruL h' r pa my f S n K O → rowX r h' p (-1) → mC h' r F pa my → voH h' N OL V FK T → voP (fun i => gdB r pa my f S (K i)) (fun i => vtL r pa my p f (K i)) K n N OL V FK → Q none h') : Wp mX12_laysVotes 8 198 42 [some (.ref 153), some (.int (nI p)), some (.int (nI f)), some (.int (nI 1)), some (.int (nI 0))] [] h Q := by
  have hF4 := hd.f4
  have hP6 := hd.w.1.2
  have hloop : ∀  (t9 : Nat) (i : Nat) (h1 : mH) (N : Nat) (OL : Nat → List (Nat × Nat)) (V : Nat → Nat) (FK : Nat → Nat) (T : Nat → Nat), (i ≤ n) → (mC h1 r F pa my) → (ruL h1 r pa my f S n K O) → (rowX r h1 p (-1)) → (voH h1 N OL V FK T) → (mFr (mP [35, 60] [169, 170, 185, 186, 187, 188, 189]) h h1) → (voP (fun i => gdB r pa my f S (K i)) (fun i => vtL r pa my p f (K i)) K i N OL V FK) → (hI h1 153 61 = nI a9) → (hI h1 153 62 = nI b9) → (n < i + t9) → Wp mX12_laysVotes 8 198 42 [some (.ref 153), some (.int (nI p)), some (.int (nI f)), some (.int (nI 1)), some (.int (nI i))] [] h1 Q := by
    intro t9
    induction t9 with
    | zero => intros; omega
    | succ t9 ih =>
      intro i h1 N OL V FK T hi hc1 rl1 rx1 vo1 hf1 vp e61 e62 hmz
      have hn9 := rl1.2.1
      refine wp_iload dX12_laysVotes_42 rfl ?_
      refine wp_aload_n dX12_laysVotes_44 rfl rfl ?_
      refine wp_getIV dX12_laysVotes_45 lX12_378 rfl (mO hc1.1) rl1.1 ?_
      refine wp_icmp_geN dX12_laysVotes_48 rfl rfl ⟨by omega, by omega⟩ (fun c1 => ?_) (fun c1 => ?_)
      · refine wp_vreturn dX12_laysVotes_162 rfl ?_
        have e9 : i = n := by omega
        subst e9
        exact K9 _ _ _ _ _ _ hf1 rl1 rx1 hc1 vo1 vp
      · refine wp_aload_n dX12_laysVotes_51 rfl rfl ?_
        refine wp_getR dX12_laysVotes_52 lX12_79 rfl (mO hc1.1) (mR_wrongs hc1.1) ?_
        refine wp_iload dX12_laysVotes_55 rfl ?_
        refine wp_ialdV dX12_laysVotes_57 (mA_wrongs hc1.1) rfl ⟨by omega, by decide⟩ (rl1.2.2.1 i (by omega)).2.2.2 ?_
        refine wp_if_neN dX12_laysVotes_58 rfl (by have := tvm_lt (r := r) (pa := pa) (my := my) (f := f) (S := S) (v := 2) (k := K i) 6 (by omega); omega) (fun c2 => ?_) (fun c2 => ?_)
        · refine wp_iinc1 (ls1 := [_, _, _, _, some _]) dX12_laysVotes_156 rfl (by decide) rfl ?_
          refine wp_goto dX12_laysVotes_159 ?_
          exact ih (i + 1) _ _ _ _ _ _ (by omega) hc1 rl1 rx1 vo1 (hf1.up (by decide) (by decide)) (voP_skip vp (decide_eq_false (fun z9 => by first | omega | (have := z9.1; omega) | exact z9.2 (by assumption)))) e61 e62 (by omega)
        · refine wp_aload_n dX12_laysVotes_61 rfl rfl ?_
          refine wp_getR dX12_laysVotes_62 lX12_76 rfl (mO hc1.1) (mR_rights hc1.1) ?_
          refine wp_iload dX12_laysVotes_65 rfl ?_
          refine wp_ialdV dX12_laysVotes_67 (mA_rights hc1.1) rfl ⟨by omega, by decide⟩ (rl1.2.2.1 i (by omega)).2.2.1 ?_
          refine wp_if_neN dX12_laysVotes_68 rfl (by have := tvm_lt (r := r) (pa := pa) (my := my) (f := f) (S := S) (v := 1) (k := K i) 6 (by omega); omega) (fun c3 => ?_) (fun c3 => ?_)
          · refine wp_aload_n dX12_laysVotes_74 rfl rfl ?_
            refine wp_iconst (v := (nI 0)) dX12_laysVotes_75 (by decide +kernel) ?_
            refine wp_putI dX12_laysVotes_76 lX12_337 rfl (Or.inl rfl) (mO hc1.1) rfl rfl ?_
            refine sealI (fun hh1 f1 e1 => ?_)
            have mc1 := hc1.fr f1 (by decide) (by decide) (by decide) (by decide) (by decide)
            have rx1 := rx1.fr f1 (by decide) (by decide)
            have rl1 := rl1.fr f1 (by decide) (by decide)
            have vo1 := vo1.fr f1 (by decide) (by decide)
            have efI61_1 := (f1.fI 61 (by decide) (by decide)).trans e61
            have efI62_1 := (f1.fI 62 (by decide) (by decide)).trans e62
            refine wp_iload_n dX12_laysVotes_79 rfl rfl ?_
            refine wp_if_eq dX12_laysVotes_80 (fun q => absurd q (by decide +kernel)) (fun _ => ?_)
            refine wp_aload_n dX12_laysVotes_83 rfl rfl ?_
            refine wp_aload_n dX12_laysVotes_84 rfl rfl ?_
            refine wp_getR dX12_laysVotes_85 lX12_40 rfl (mO mc1.1) (mR_isMany mc1.1) ?_
            refine wp_iload_n dX12_laysVotes_88 rfl rfl ?_
            refine wp_zaldV dX12_laysVotes_89 (mA_isMany mc1.1) rfl ⟨by omega, by decide⟩ (congrFun mc1.2.2.2.2 _) ?_
            refine wp_aload_n dX12_laysVotes_90 rfl rfl ?_
            refine wp_getIV dX12_laysVotes_91 lX12_506 rfl (mO mc1.1) efI61_1 ?_
            refine wp_aload_n dX12_laysVotes_94 rfl rfl ?_
            refine wp_getIV dX12_laysVotes_95 lX12_509 rfl (mO mc1.1) efI62_1 ?_
            refine wp_aload_n dX12_laysVotes_98 rfl rfl ?_
            refine wp_getR dX12_laysVotes_99 lX12_70 rfl (mO mc1.1) (mR_key mc1.1) ?_
            refine wp_iload dX12_laysVotes_102 rfl ?_
            refine wp_laldV dX12_laysVotes_104 (mA_key mc1.1) rfl ⟨by omega, by decide⟩ (rl1.2.2.1 i (by omega)).1.1 ?_
            refine wp_iconst (v := (nI 0)) dX12_laysVotes_105 (by decide +kernel) ?_
            refine wp_cS2 0 0 [some _, none, some _] dX12_laysVotes_106 tX12_itemOf sX12_itemOf lX12_403 ⟨by decide, by decide⟩ (Nat.le_of_ble_eq_true rfl) (Nat.le_of_ble_eq_true rfl) rfl ?_
            refine pX12_itemOf (rl1.2.2.1 i (by omega)).1.2 (by decide) ?_
            intro _ _
            refine wp_aload_n dX12_laysVotes_109 rfl rfl ?_
            refine wp_getR dX12_laysVotes_110 lX12_70 rfl (mO mc1.1) (mR_key mc1.1) ?_
            refine wp_iload dX12_laysVotes_113 rfl ?_
            refine wp_laldV dX12_laysVotes_115 (mA_key mc1.1) rfl ⟨by omega, by decide⟩ (rl1.2.2.1 i (by omega)).1.1 ?_
            refine wp_iconst (v := (nI 1)) dX12_laysVotes_116 (by decide +kernel) ?_
            refine wp_cS2 0 0 [some _, none, some _] dX12_laysVotes_117 tX12_itemOf sX12_itemOf lX12_403 ⟨by decide, by decide⟩ (Nat.le_of_ble_eq_true rfl) (Nat.le_of_ble_eq_true rfl) rfl ?_
            refine pX12_itemOf (rl1.2.2.1 i (by omega)).1.2 (by decide) ?_
            intro _ _
            refine wp_aload_n dX12_laysVotes_120 rfl rfl ?_
            refine wp_getR dX12_laysVotes_121 lX12_70 rfl (mO mc1.1) (mR_key mc1.1) ?_
            refine wp_iload dX12_laysVotes_124 rfl ?_
            refine wp_laldV dX12_laysVotes_126 (mA_key mc1.1) rfl ⟨by omega, by decide⟩ (rl1.2.2.1 i (by omega)).1.1 ?_
            refine wp_iconst (v := (nI 2)) dX12_laysVotes_127 (by decide +kernel) ?_
            refine wp_cS2 0 0 [some _, none, some _] dX12_laysVotes_128 tX12_itemOf sX12_itemOf lX12_403 ⟨by decide, by decide⟩ (Nat.le_of_ble_eq_true rfl) (Nat.le_of_ble_eq_true rfl) rfl ?_
            refine pX12_itemOf (rl1.2.2.1 i (by omega)).1.2 (by decide) ?_
            intro _ _
            refine wp_aload_n dX12_laysVotes_131 rfl rfl ?_
            refine wp_getR dX12_laysVotes_132 lX12_70 rfl (mO mc1.1) (mR_key mc1.1) ?_
            refine wp_iload dX12_laysVotes_135 rfl ?_
            refine wp_laldV dX12_laysVotes_137 (mA_key mc1.1) rfl ⟨by omega, by decide⟩ (rl1.2.2.1 i (by omega)).1.1 ?_
            refine wp_iconst (v := (nI 3)) dX12_laysVotes_138 (by decide +kernel) ?_
            refine wp_cS2 0 0 [some _, none, some _] dX12_laysVotes_139 tX12_itemOf sX12_itemOf lX12_403 ⟨by decide, by decide⟩ (Nat.le_of_ble_eq_true rfl) (Nat.le_of_ble_eq_true rfl) rfl ?_
            refine pX12_itemOf (rl1.2.2.1 i (by omega)).1.2 (by decide) ?_
            intro _ _
            refine wp_cV7 4 99 [some _, some _, some _, some _, some _, some _, some _, some _, none] dX12_laysVotes_142 tX12_cutsRegion rfl (by decide) nX12_cutsRegion vX12_cutsRegion lX12_353 ⟨by decide, by decide⟩ (Nat.le_of_ble_eq_true rfl) (mO mc1.1) (Nat.le_of_ble_eq_true rfl) rfl ?_
            refine pX12_cutsRegion' mc1 hd (hd.my f (by omega)) hp rx1 hab (fun hh2 f2 k2 => ?_)
            intro _ _
            have mc2 := mc1.fr f2 (by decide) (by decide) (by decide) (by decide) (by decide)
            have rx2 := rx1.fr f2 (by decide) (by decide)
            have rl2 := rl1.fr f2 (by decide) (by decide)
            have vo2 := vo1.fr f2 (by decide) (by decide)
            have efI61_2 := (f2.fI 61 (by decide) (by decide)).trans efI61_1
            have efI62_2 := (f2.fI 62 (by decide) (by decide)).trans efI62_1
            have hvt : vtL r pa my p f (K i) = cutL (pmR r p (-1)) b9 (itm (kI (K i) 0)) (itm (kI (K i) 1)) (itm (kI (K i) 2)) (itm (kI (K i) 3)) (mzN (my f)) a9 := by unfold vtL; rw [hrg]
            have hok : okP (cutL (pmR r p (-1)) b9 (itm (kI (K i) 0)) (itm (kI (K i) 1)) (itm (kI (K i) 2)) (itm (kI (K i) 3)) (mzN (my f)) a9) := k2.okp (fun j hj => by have := ((srt_cut (P := pmR r p (-1)) (b := b9) (far := itm (kI (K i) 0)) (near := itm (kI (K i) 1)) (sec := itm (kI (K i) 2)) (stop := itm (kI (K i) 3)) (mzN (my f)) a9 hab.1).1 j hj).1; omega)
            refine wp_aload_n dX12_laysVotes_145 rfl rfl ?_
            refine wp_aload_n dX12_laysVotes_146 rfl rfl ?_
            refine wp_getR dX12_laysVotes_147 lX12_70 rfl (mO mc2.1) (mR_key mc2.1) ?_
            refine wp_iload dX12_laysVotes_150 rfl ?_
            refine wp_laldV dX12_laysVotes_152 (mA_key mc2.1) rfl ⟨by omega, by decide⟩ (rl2.2.2.1 i (by omega)).1.1 ?_
            refine wp_cV1 1 25 [some _, some _, none, none, none, none, none, none, none] dX12_laysVotes_153 tX12_votes rfl (by decide) nX12_votes vX12_votes lX12_523 ⟨by decide, by decide⟩ (Nat.le_of_ble_eq_true rfl) (mO mc2.1) (Nat.le_of_ble_eq_true rfl) rfl ?_
            refine pX12_votes mc2.1 k2 hok vo2 (by have := vp.1; omega) (rl2.2.2.1 i (by omega)).1.2 (fun no3 hh3 T3 f3 vo3 => ?_) (fun j3 hj3 lj3 hh3 T3 f3 vo3 => ?_)
            · intro _ _
              rw [← hvt] at vo3 no3
              have mc3 := mc2.fr f3 (by decide) (by decide) (by decide) (by decide) (by decide)
              have rx3 := rx2.fr f3 (by decide) (by decide)
              have k3 := k2.fr f3 (by decide) (by decide)
              have rl3 := rl2.fr f3 (by decide) (by decide)
              have efI61_3 := (f3.fI 61 (by decide) (by decide)).trans efI61_2
              have efI62_3 := (f3.fI 62 (by decide) (by decide)).trans efI62_2
              refine wp_iinc1 (ls1 := [_, _, _, _, some _]) dX12_laysVotes_156 rfl (by decide) rfl ?_
              refine wp_goto dX12_laysVotes_159 ?_
              have vt9 := hvt; exact ih (i + 1) _ _ _ _ _ _ (by omega) mc3 rl3 rx3 vo3 ((((hf1.up (by decide) (by decide)).tr (f1.up (by decide) (by decide))).tr (f2.up (by decide) (by decide))).tr (f3.up (by decide) (by decide))) (voP_new vp (decide_eq_true ⟨by assumption, by omega⟩) no3) efI61_3 efI62_3 (by omega)
            · intro _ _
              have mc3 := mc2.fr f3 (by decide) (by decide) (by decide) (by decide) (by decide)
              have rx3 := rx2.fr f3 (by decide) (by decide)
              have k3 := k2.fr f3 (by decide) (by decide)
              have rl3 := rl2.fr f3 (by decide) (by decide)
              have efI61_3 := (f3.fI 61 (by decide) (by decide)).trans efI61_2
              have efI62_3 := (f3.fI 62 (by decide) (by decide)).trans efI62_2
              refine wp_iinc1 (ls1 := [_, _, _, _, some _]) dX12_laysVotes_156 rfl (by decide) rfl ?_
              refine wp_goto dX12_laysVotes_159 ?_
              exact ih (i + 1) _ _ _ _ _ _ (by omega) mc3 rl3 rx3 vo3 ((((hf1.up (by decide) (by decide)).tr (f1.up (by decide) (by decide))).tr (f2.up (by decide) (by decide))).tr (f3.up (by decide) (by decide))) (voP_old vp vo1.2.2.2.2 (decide_eq_true ⟨by assumption, by omega⟩) hj3 (lj3.trans hvt.symm)) efI61_3 efI62_3 (by omega)
          · refine wp_goto dX12_laysVotes_71 ?_
            refine wp_iinc1 (ls1 := [_, _, _, _, some _]) dX12_laysVotes_156 rfl (by decide) rfl ?_
            refine wp_goto dX12_laysVotes_159 ?_
            exact ih (i + 1) _ _ _ _ _ _ (by omega) hc1 rl1 rx1 vo1 (hf1.up (by decide) (by decide)) (voP_skip vp (decide_eq_false (fun z9 => by first | omega | (have := z9.1; omega) | exact z9.2 (by assumption)))) e61 e62 (by omega)
  exact hloop (n + 1) 0 h 0 OL V FK T (by omega) hc rl rx vo mFr.rf voP_0 e61 e62 (by have := rl.2.1; omega)
set_option maxRecDepth 20000 in
theorem votes_loop0 {h : mH} {Q : Option Value → mH → Prop} {r : Nat → Int64} {F : Nat} {pa my : Nat → Int32} {p f S n : Nat} {K O : Nat → Nat} {T : Nat → Nat} {OL : Nat → List (Nat × Nat)} {V FK : Nat → Nat} (hc : mC h r F pa my) (hd : sOK r F pa my) (hf : f < F) (hp : p < rP r) (rl : ruL h r pa my f S n K O) (rx : rowX r h p (-1)) (vo : voH h 0 OL V FK T) (hrg : rgX r pa my p f = none) (K9 : ∀ h' N OL V FK T, mFr (mP [35, 60] [169, 170, 185, 186, 187, 188, 189]) h h' → ruL h' r pa my f S n K O → rowX r h' p (-1) → mC h' r F pa my → voH h' N OL V FK T → voP (fun i => gdB r pa my f S (K i)) (fun i => vtL r pa my p f (K i)) K n N OL V FK → Q none h') : Wp mX12_laysVotes 8 198 42 [some (.ref 153), some (.int (nI p)), some (.int (nI f)), some (.int (nI 0)), some (.int (nI 0))] [] h Q := by
  have hF4 := hd.f4
  have hP6 := hd.w.1.2
  have hloop : ∀  (t9 : Nat) (i : Nat) (h1 : mH) (N : Nat) (OL : Nat → List (Nat × Nat)) (V : Nat → Nat) (FK : Nat → Nat) (T : Nat → Nat), (i ≤ n) → (mC h1 r F pa my) → (ruL h1 r pa my f S n K O) → (rowX r h1 p (-1)) → (voH h1 N OL V FK T) → (mFr (mP [35, 60] [169, 170, 185, 186, 187, 188, 189]) h h1) → (voP (fun i => gdB r pa my f S (K i)) (fun i => vtL r pa my p f (K i)) K i N OL V FK) → (n < i + t9) → Wp mX12_laysVotes 8 198 42 [some (.ref 153), some (.int (nI p)), some (.int (nI f)), some (.int (nI 0)), some (.int (nI i))] [] h1 Q := by
    intro t9
    induction t9 with
    | zero => intros; omega
    | succ t9 ih =>
      intro i h1 N OL V FK T hi hc1 rl1 rx1 vo1 hf1 vp hmz
      have hn9 := rl1.2.1
      refine wp_iload dX12_laysVotes_42 rfl ?_
      refine wp_aload_n dX12_laysVotes_44 rfl rfl ?_
      refine wp_getIV dX12_laysVotes_45 lX12_378 rfl (mO hc1.1) rl1.1 ?_
      refine wp_icmp_geN dX12_laysVotes_48 rfl rfl ⟨by omega, by omega⟩ (fun c1 => ?_) (fun c1 => ?_)
      · refine wp_vreturn dX12_laysVotes_162 rfl ?_
        have e9 : i = n := by omega
        subst e9
        exact K9 _ _ _ _ _ _ hf1 rl1 rx1 hc1 vo1 vp
      · refine wp_aload_n dX12_laysVotes_51 rfl rfl ?_
        refine wp_getR dX12_laysVotes_52 lX12_79 rfl (mO hc1.1) (mR_wrongs hc1.1) ?_
        refine wp_iload dX12_laysVotes_55 rfl ?_
        refine wp_ialdV dX12_laysVotes_57 (mA_wrongs hc1.1) rfl ⟨by omega, by decide⟩ (rl1.2.2.1 i (by omega)).2.2.2 ?_
        refine wp_if_neN dX12_laysVotes_58 rfl (by have := tvm_lt (r := r) (pa := pa) (my := my) (f := f) (S := S) (v := 2) (k := K i) 6 (by omega); omega) (fun c2 => ?_) (fun c2 => ?_)
        · refine wp_iinc1 (ls1 := [_, _, _, _, some _]) dX12_laysVotes_156 rfl (by decide) rfl ?_
          refine wp_goto dX12_laysVotes_159 ?_
          exact ih (i + 1) _ _ _ _ _ _ (by omega) hc1 rl1 rx1 vo1 (hf1.up (by decide) (by decide)) (voP_skip vp (decide_eq_false (fun z9 => by first | omega | (have := z9.1; omega) | exact z9.2 (by assumption)))) (by omega)
        · refine wp_aload_n dX12_laysVotes_61 rfl rfl ?_
          refine wp_getR dX12_laysVotes_62 lX12_76 rfl (mO hc1.1) (mR_rights hc1.1) ?_
          refine wp_iload dX12_laysVotes_65 rfl ?_
          refine wp_ialdV dX12_laysVotes_67 (mA_rights hc1.1) rfl ⟨by omega, by decide⟩ (rl1.2.2.1 i (by omega)).2.2.1 ?_
          refine wp_if_neN dX12_laysVotes_68 rfl (by have := tvm_lt (r := r) (pa := pa) (my := my) (f := f) (S := S) (v := 1) (k := K i) 6 (by omega); omega) (fun c3 => ?_) (fun c3 => ?_)
          · refine wp_aload_n dX12_laysVotes_74 rfl rfl ?_
            refine wp_iconst (v := (nI 0)) dX12_laysVotes_75 (by decide +kernel) ?_
            refine wp_putI dX12_laysVotes_76 lX12_337 rfl (Or.inl rfl) (mO hc1.1) rfl rfl ?_
            refine sealI (fun hh1 f1 e1 => ?_)
            have mc1 := hc1.fr f1 (by decide) (by decide) (by decide) (by decide) (by decide)
            have rx1 := rx1.fr f1 (by decide) (by decide)
            have rl1 := rl1.fr f1 (by decide) (by decide)
            have vo1 := vo1.fr f1 (by decide) (by decide)
            refine wp_iload_n dX12_laysVotes_79 rfl rfl ?_
            refine wp_if_eq dX12_laysVotes_80 (fun _ => ?_) (fun q => absurd q (by decide +kernel))
            refine wp_aload_n dX12_laysVotes_145 rfl rfl ?_
            refine wp_aload_n dX12_laysVotes_146 rfl rfl ?_
            refine wp_getR dX12_laysVotes_147 lX12_70 rfl (mO mc1.1) (mR_key mc1.1) ?_
            refine wp_iload dX12_laysVotes_150 rfl ?_
            refine wp_laldV dX12_laysVotes_152 (mA_key mc1.1) rfl ⟨by omega, by decide⟩ (rl1.2.2.1 i (by omega)).1.1 ?_
            refine wp_cV1 1 25 [some _, some _, none, none, none, none, none, none, none] dX12_laysVotes_153 tX12_votes rfl (by decide) nX12_votes vX12_votes lX12_523 ⟨by decide, by decide⟩ (Nat.le_of_ble_eq_true rfl) (mO mc1.1) (Nat.le_of_ble_eq_true rfl) rfl ?_
            have k0 : cutsOK hh1 [] := ⟨e1, by decide, fun j hj => absurd hj (by show ¬ j < 0; omega)⟩
            have hvt : vtL r pa my p f (K i) = [] := by unfold vtL; rw [hrg]
            refine pX12_votes mc1.1 k0 okP_nil vo1 (by have := vp.1; omega) (rl1.2.2.1 i (by omega)).1.2 (fun no2 hh2 T2 f2 vo2 => ?_) (fun j2 hj2 lj2 hh2 T2 f2 vo2 => ?_)
            · intro _ _
              rw [← hvt] at vo2 no2
              have mc2 := mc1.fr f2 (by decide) (by decide) (by decide) (by decide) (by decide)
              have rx2 := rx1.fr f2 (by decide) (by decide)
              have rl2 := rl1.fr f2 (by decide) (by decide)
              have efI35_2 := (f2.fI 35 (by decide) (by decide)).trans e1
              refine wp_iinc1 (ls1 := [_, _, _, _, some _]) dX12_laysVotes_156 rfl (by decide) rfl ?_
              refine wp_goto dX12_laysVotes_159 ?_
              have vt9 := hvt; exact ih (i + 1) _ _ _ _ _ _ (by omega) mc2 rl2 rx2 vo2 (((hf1.up (by decide) (by decide)).tr (f1.up (by decide) (by decide))).tr (f2.up (by decide) (by decide))) (voP_new vp (decide_eq_true ⟨by assumption, by omega⟩) no2) (by omega)
            · intro _ _
              have mc2 := mc1.fr f2 (by decide) (by decide) (by decide) (by decide) (by decide)
              have rx2 := rx1.fr f2 (by decide) (by decide)
              have rl2 := rl1.fr f2 (by decide) (by decide)
              have efI35_2 := (f2.fI 35 (by decide) (by decide)).trans e1
              refine wp_iinc1 (ls1 := [_, _, _, _, some _]) dX12_laysVotes_156 rfl (by decide) rfl ?_
              refine wp_goto dX12_laysVotes_159 ?_
              exact ih (i + 1) _ _ _ _ _ _ (by omega) mc2 rl2 rx2 vo2 (((hf1.up (by decide) (by decide)).tr (f1.up (by decide) (by decide))).tr (f2.up (by decide) (by decide))) (voP_old vp vo1.2.2.2.2 (decide_eq_true ⟨by assumption, by omega⟩) hj2 (lj2.trans hvt.symm)) (by omega)
          · refine wp_goto dX12_laysVotes_71 ?_
            refine wp_iinc1 (ls1 := [_, _, _, _, some _]) dX12_laysVotes_156 rfl (by decide) rfl ?_
            refine wp_goto dX12_laysVotes_159 ?_
            exact ih (i + 1) _ _ _ _ _ _ (by omega) hc1 rl1 rx1 vo1 (hf1.up (by decide) (by decide)) (voP_skip vp (decide_eq_false (fun z9 => by first | omega | (have := z9.1; omega) | exact z9.2 (by assumption)))) (by omega)
  exact hloop (n + 1) 0 h 0 OL V FK T (by omega) hc rl rx vo mFr.rf voP_0 (by have := rl.2.1; omega)
set_option maxRecDepth 20000 in
theorem votes_zero {h : mH} {Q : Option Value → mH → Prop} {p f : Nat} (hs : mS h) (K9 : ∀ k h', mFr (mP [] [189]) h h' → (∀ s, s < 32768 → hI h' 189 s = nI 0) → Wp mX12_laysVotes 8 198 26 [some (.ref 153), some (.int (nI p)), some (.int (nI f)), some (.int (nI k)), none] [] h' Q) : Wp mX12_laysVotes 8 198 7 [some (.ref 153), some (.int (nI p)), some (.int (nI f)), some (.int (nI 0)), none] [] h Q := by
  have hloop : ∀  (n : Nat) (k : Nat) (h1 : mH) (U : Nat → Int32), (k ≤ 32768) → (mS h1) → (mFr (mP [] [189]) h h1) → (hI h1 189 = U) → (∀ j, j < k → U j = nI 0) → (32768 < k + n) → Wp mX12_laysVotes 8 198 7 [some (.ref 153), some (.int (nI p)), some (.int (nI f)), some (.int (nI k)), none] [] h1 Q := by
    intro n
    induction n with
    | zero => intros; omega
    | succ n ih =>
      intro k h1 U hk hs1 hf1 e1 hU hmz
      refine wp_iload_n dX12_laysVotes_7 rfl rfl ?_
      refine wp_ldc dX12_laysVotes_8 lX12_82 ?_
      rw [show (32768 : Int32) = nI 32768 by decide +kernel]
      refine wp_icmp_geN dX12_laysVotes_10 rfl rfl ⟨by omega, by omega⟩ (fun c1 => ?_) (fun c1 => ?_)
      · exact K9 _ _ hf1 (fun s hs => (congrFun e1 s).trans (hU s (by omega)))
      · refine wp_aload_n dX12_laysVotes_13 rfl rfl ?_
        refine wp_getR dX12_laysVotes_14 lX12_125 rfl (mO hs1) (mR_voteAt hs1) ?_
        refine wp_iload_n dX12_laysVotes_17 rfl rfl ?_
        refine wp_iconst (v := (nI 0)) dX12_laysVotes_18 (by decide +kernel) ?_
        refine wp_iastN dX12_laysVotes_19 (mA_voteAt hs1) rfl ⟨by omega, by decide⟩ ?_
        refine sealAI e1 (fun hh1 f1 e1 => ?_)
        have S1 := f1.s hs1
        refine wp_iinc1 (ls1 := [_, _, _, some _, _]) dX12_laysVotes_20 rfl (by decide) rfl ?_
        refine wp_goto dX12_laysVotes_23 ?_
        refine ih (k + 1) _ _ (by omega) S1 ((hf1.up (by decide) (by decide)).tr (f1.up (by decide) (by decide))) e1 ?_ (by omega)
        intro j hj
        by_cases e9 : j = k
        · subst e9; exact upI_at _ _ _
        · rw [upI_ne e9]; exact hU j (by omega)
  exact hloop 32769 0 h _ (by omega) hs mFr.rf rfl (fun j hj => by omega) (by omega)
set_option maxRecDepth 20000 in
theorem pX12_laysVotes {h : mH} {Q : Option Value → mH → Prop} {r : Nat → Int64} {F : Nat} {pa my : Nat → Int32} {p f S n : Nat} {K O : Nat → Nat} (hc : mC h r F pa my) (hd : sOK r F pa my) (hf : f < F) (hp : p < rP r) (rl : ruL h r pa my f S n K O) (hq : ∀ h' N OL V FK T, mFr (mP [24, 32, 35, 50, 60, 61, 62] [163, 164, 165, 167, 168, 169, 170, 182, 185, 186, 187, 188, 189]) h h' → ruL h' r pa my f S n K O → rowX r h' p (-1) → voH h' N OL V FK T → voP (fun i => gdB r pa my f S (K i)) (fun i => vtL r pa my p f (K i)) K n N OL V FK → Q none h') : Wp mX12_laysVotes 8 198 0 [some (.ref 153), some (.int (nI p)), some (.int (nI f)), none, none] [] h Q := by
  have hF4 := hd.f4
  have hP6 := hd.w.1.2
  refine wp_aload_n dX12_laysVotes_0 rfl rfl ?_
  refine wp_iconst (v := (nI 0)) dX12_laysVotes_1 (by decide +kernel) ?_
  refine wp_putI dX12_laysVotes_2 lX12_517 rfl (Or.inl rfl) (mO hc.1) rfl rfl ?_
  refine sealI (fun hh1 f1 e1 => ?_)
  have mc1 := hc.fr f1 (by decide) (by decide) (by decide) (by decide) (by decide)
  have rl1 := rl.fr f1 (by decide) (by decide)
  refine wp_iconst (v := (nI 0)) dX12_laysVotes_5 (by decide +kernel) ?_
  refine wp_istore_n (ls1 := [_, _, _, some _, _]) dX12_laysVotes_6 rfl (by decide) rfl ?_
  refine votes_zero mc1.1 (fun k2 hh2 f2 z2 => ?_)
  have mc2 := mc1.fr f2 (by decide) (by decide) (by decide) (by decide) (by decide)
  have rl2 := rl1.fr f2 (by decide) (by decide)
  have efI60_2 := (f2.fI 60 (by decide) (by decide)).trans e1
  refine wp_aload_n dX12_laysVotes_26 rfl rfl ?_
  refine wp_iload_n dX12_laysVotes_27 rfl rfl ?_
  refine wp_iload_n dX12_laysVotes_28 rfl rfl ?_
  refine wp_cV2 7 176 [some _, some _, some _] dX12_laysVotes_29 tX12_laysRegion rfl (by decide) nX12_laysRegion vX12_laysRegion lX12_520 ⟨by decide, by decide⟩ (Nat.le_of_ble_eq_true rfl) (mO mc2.1) (Nat.le_of_ble_eq_true rfl) rfl ?_
  refine pX12_laysRegion mc2 hd hf hp (fun hh3 ab3 f3 rg3 nx3 ea3 eb3 => ?_) (fun hh3 f3 rg3 nx3 => ?_)
  · intro _ _
    have mc3 := mc2.fr f3 (by decide) (by decide) (by decide) (by decide) (by decide)
    have rl3 := rl2.fr f3 (by decide) (by decide)
    have efI60_3 := (f3.fI 60 (by decide) (by decide)).trans efI60_2
    have eI189_3 := (f3.Ir (by decide) (by decide)).trans (rfl : hI hh2 189 = hI hh2 189)
    refine wp_istore_n (ls1 := [_, _, _, some _, _]) dX12_laysVotes_32 rfl (by decide) rfl ?_
    refine wp_aload_n dX12_laysVotes_33 rfl rfl ?_
    refine wp_iload_n dX12_laysVotes_34 rfl rfl ?_
    refine wp_iconst (v := (-1)) dX12_laysVotes_35 (by decide +kernel) ?_
    refine wp_cV2 1 21 [some _, some _, some _, none] dX12_laysVotes_36 tX12_laysRow rfl (by decide) nX12_laysRow vX12_laysRow lX12_344 ⟨by decide, by decide⟩ (Nat.le_of_ble_eq_true rfl) (mO mc3.1) (Nat.le_of_ble_eq_true rfl) rfl ?_
    refine pX12_laysRow' mc3 hd nx3 (by omega) (fun hh4 f4 rx4 => ?_)
    intro _ _
    have mc4 := mc3.fr f4 (by decide) (by decide) (by decide) (by decide) (by decide)
    have nx4 := nx3.fr f4 (by decide) (by decide)
    have rl4 := rl3.fr f4 (by decide) (by decide)
    have efI60_4 := (f4.fI 60 (by decide) (by decide)).trans efI60_3
    have eI189_4 := (f4.Ir (by decide) (by decide)).trans eI189_3
    have efI61_4 := (f4.fI 61 (by decide) (by decide)).trans ea3
    have efI62_4 := (f4.fI 62 (by decide) (by decide)).trans eb3
    refine wp_iconst (v := (nI 0)) dX12_laysVotes_39 (by decide +kernel) ?_
    refine wp_istore (ls1 := [_, _, _, _, some _]) dX12_laysVotes_40 (by decide) rfl ?_
    have vo0 : voH hh4 0 (fun _ => []) (fun _ => 0) (fun _ => 0) (fun _ => 0) := ⟨efI60_4, fun o ho => by omega, fun s hs => (congrFun eI189_4 s).trans (z2 s hs), hsh_0, fun o o' ho => by omega⟩
    exact votes_loop1 mc4 hd hf hp rl4 rx4 vo0 rg3 (vtL_ok hd hf (by omega) rg3) efI61_4 efI62_4 (fun hh N OL V FK T f9 rl9 rx9 mc9 vo9 vp9 => hq _ N OL V FK T (((((f1.up (by decide) (by decide)).tr (f2.up (by decide) (by decide))).tr (f3.up (by decide) (by decide))).tr (f4.up (by decide) (by decide))).tr (f9.up (by decide) (by decide))) rl9 rx9 vo9 vp9)
  · intro _ _
    have mc3 := mc2.fr f3 (by decide) (by decide) (by decide) (by decide) (by decide)
    have rl3 := rl2.fr f3 (by decide) (by decide)
    have efI60_3 := (f3.fI 60 (by decide) (by decide)).trans efI60_2
    have eI189_3 := (f3.Ir (by decide) (by decide)).trans (rfl : hI hh2 189 = hI hh2 189)
    refine wp_istore_n (ls1 := [_, _, _, some _, _]) dX12_laysVotes_32 rfl (by decide) rfl ?_
    refine wp_aload_n dX12_laysVotes_33 rfl rfl ?_
    refine wp_iload_n dX12_laysVotes_34 rfl rfl ?_
    refine wp_iconst (v := (-1)) dX12_laysVotes_35 (by decide +kernel) ?_
    refine wp_cV2 1 21 [some _, some _, some _, none] dX12_laysVotes_36 tX12_laysRow rfl (by decide) nX12_laysRow vX12_laysRow lX12_344 ⟨by decide, by decide⟩ (Nat.le_of_ble_eq_true rfl) (mO mc3.1) (Nat.le_of_ble_eq_true rfl) rfl ?_
    refine pX12_laysRow' mc3 hd nx3 (by omega) (fun hh5 f5 rx5 => ?_)
    intro _ _
    have mc5 := mc3.fr f5 (by decide) (by decide) (by decide) (by decide) (by decide)
    have nx5 := nx3.fr f5 (by decide) (by decide)
    have rl5 := rl3.fr f5 (by decide) (by decide)
    have efI60_5 := (f5.fI 60 (by decide) (by decide)).trans efI60_3
    have eI189_5 := (f5.Ir (by decide) (by decide)).trans eI189_3
    refine wp_iconst (v := (nI 0)) dX12_laysVotes_39 (by decide +kernel) ?_
    refine wp_istore (ls1 := [_, _, _, _, some _]) dX12_laysVotes_40 (by decide) rfl ?_
    have vo0 : voH hh5 0 (fun _ => []) (fun _ => 0) (fun _ => 0) (fun _ => 0) := ⟨efI60_5, fun o ho => by omega, fun s hs => (congrFun eI189_5 s).trans (z2 s hs), hsh_0, fun o o' ho => by omega⟩
    exact votes_loop0 mc5 hd hf hp rl5 rx5 vo0 rg3 (fun hh N OL V FK T f9 rl9 rx9 mc9 vo9 vp9 => hq _ N OL V FK T (((((f1.up (by decide) (by decide)).tr (f2.up (by decide) (by decide))).tr (f3.up (by decide) (by decide))).tr (f5.up (by decide) (by decide))).tr (f9.up (by decide) (by decide))) rl9 rx9 vo9 vp9)
