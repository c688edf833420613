/-! ===== the best rule for each set of pages ===== -/
/-- rule i is the best for its set among the first n -/
def bsI (n : Nat) (G : Nat → Prop) (on K : Nat → Nat) (U : Nat → Int32) : Prop := ∀ k, k < 64 → (U k = -1 ∧ ∀ i, i < n → G i → on i = k → k = 0) ∨ ∃ i, i < n ∧ U k = nI i ∧ G i ∧ on i = k ∧ 0 < k ∧ ∀ j, j < n → G j → on j = k → K i ≤ K j
theorem bsI_no {n : Nat} {G : Nat → Prop} {on K : Nat → Nat} {U : Nat → Int32} (q : bsI n G on K U) (h : ¬ G n ∨ on n = 0) : bsI (n + 1) G on K U := by
  intro k hk
  rcases q k hk with ⟨e, z⟩ | ⟨i, hi, e, z1, z2, z3, z4⟩
  · refine Or.inl ⟨e, fun i hi g o => ?_⟩
    by_cases c : i = n
    · subst c
      rcases h with h | h
      · exact absurd g h
      · omega
    · exact z i (by omega) g o
  · refine Or.inr ⟨i, by omega, e, z1, z2, z3, fun j hj g o => ?_⟩
    by_cases c : j = n
    · subst c
      rcases h with h | h
      · exact absurd g h
      · omega
    · exact z4 j (by omega) g o
theorem bsI_set {n k : Nat} {G : Nat → Prop} {on K : Nat → Nat} {U : Nat → Int32} (q : bsI n G on K U) (hg : G n) (hk : on n = k) (h0 : 0 < k) (hl : ∀ i, i < n → G i → on i = k → K n ≤ K i) : bsI (n + 1) G on K (upI U k (nI n)) := by
  intro k' hk'
  by_cases c : k' = k
  · subst c
    refine Or.inr ⟨n, by omega, upI_at _ _ _, hg, hk, h0, fun j hj g o => ?_⟩
    by_cases e : j = n
    · subst e
      exact Nat.le_refl _
    · exact hl j (by omega) g o
  · rw [upI_ne c]
    rcases q k' hk' with ⟨e, z⟩ | ⟨i, hi, e, z1, z2, z3, z4⟩
    · refine Or.inl ⟨e, fun i hi g o => ?_⟩
      by_cases e : i = n
      · subst e
        omega
      · exact z i (by omega) g o
    · refine Or.inr ⟨i, by omega, e, z1, z2, z3, fun j hj g o => ?_⟩
      by_cases e : j = n
      · subst e
        omega
      · exact z4 j (by omega) g o
theorem bsI_keep {n k i : Nat} {G : Nat → Prop} {on K : Nat → Nat} {U : Nat → Int32} (q : bsI n G on K U) (hk : on n = k) (hl : ∀ i, i < n → G i → on i = k → (∀ j, j < n → G j → on j = k → K i ≤ K j) → K i ≤ K n) (hi : i < n ∧ G i ∧ on i = k) : bsI (n + 1) G on K U := by
  intro k' hk'
  rcases q k' hk' with ⟨e, z⟩ | ⟨i, hi, e, z1, z2, z3, z4⟩
  · refine Or.inl ⟨e, fun i' hi' g o => ?_⟩
    by_cases c : i' = n
    · subst c
      exact z i hi.1 hi.2.1 (hi.2.2.trans (hk.symm.trans o))
    · exact z i' (by omega) g o
  · refine Or.inr ⟨i, by omega, e, z1, z2, z3, fun j hj g o => ?_⟩
    by_cases c : j = n
    · subst c
      have e2 : k = k' := hk.symm.trans o
      subst e2
      exact hl i hi z1 z2 z4
    · exact z4 j (by omega) g o
theorem tb6 {s p : Nat} (hs : s < 64) (h : s.testBit p = true) : p < 6 := by
  rcases Nat.lt_or_ge p 6 with z | z
  · exact z
  · have := Nat.testBit_lt_two_pow (x := s) (i := p) (Nat.lt_of_lt_of_le hs (Nat.pow_le_pow_right (n := 2) (by decide) z))
    rw [this] at h
    exact absurd h (by decide)
theorem and_ne {x s : Nat} : x &&& s ≠ 0 ↔ ∃ p, x.testBit p = true ∧ s.testBit p = true := by
  constructor
  · intro h
    obtain ⟨p, hp⟩ := Nat.exists_testBit_of_ne_zero h
    rw [Nat.testBit_and, Bool.and_eq_true] at hp
    exact ⟨p, hp⟩
  · rintro ⟨p, h1, h2⟩ e
    have : (x &&& s).testBit p = true := by rw [Nat.testBit_and, h1, h2]; rfl
    rw [e, Nat.zero_testBit] at this
    exact absurd this (by decide)
theorem tvm_and {r : Nat → Int64} {pa my : Nat → Int32} {f S s v x : Nat} (hs : s < 64) (hsub : ∀ p, s.testBit p = true → S.testBit p = true) : tvm r pa my f S v x 6 &&& s = tvm r pa my f s v x 6 := by
  apply Nat.eq_of_testBit_eq
  intro p
  rw [Nat.testBit_and, tvm_tb, tvm_tb]
  cases c : s.testBit p with
  | false =>
    rw [Bool.and_false]
    exact (decide_eq_false (fun z => absurd z.2.1 (by decide))).symm
  | true =>
    rw [Bool.and_true]
    exact decide_eq_decide.mpr ⟨fun z => ⟨z.1, rfl, z.2.2⟩, fun z => ⟨z.1, hsub p c, z.2.2⟩⟩
/-- a rule can be by a page of a set, and is wrong on none of it -/
def gdK (r : Nat → Int64) (pa my : Nat → Int32) (f s x : Nat) : Prop := (∃ p, p < 6 ∧ s.testBit p = true ∧ bNr r pa f p x) ∧ ∀ p, p < 6 → s.testBit p = true → tvK r pa my f p x ≠ 2
abbrev onK (r : Nat → Int64) (pa my : Nat → Int32) (f s x : Nat) : Nat := tvm r pa my f s 1 x 6
theorem gdK_iff {h : mH} {r : Nat → Int64} {pa my : Nat → Int32} {f S n s i : Nat} {K O : Nat → Nat} (q : ruL h r pa my f S n K O) (hs : s < 64) (hsub : ∀ p, s.testBit p = true → S.testBit p = true) (hi : i < n) : (O i &&& s ≠ 0 ∧ tvm r pa my f S 2 (K i) 6 &&& s = 0) ↔ gdK r pa my f s (K i) := by
  rw [and_ne]
  constructor
  · rintro ⟨⟨p, h1, h2⟩, h3⟩
    refine ⟨⟨p, tb6 hs h2, h2, ((q.2.2.2.2.1 i hi p (tb6 hs h2)).mp h1).2⟩, fun p hp h4 e => ?_⟩
    exact absurd h3 (and_ne.mpr ⟨p, (tvm_tb 6 p).trans (decide_eq_true ⟨hp, hsub p h4, e⟩), h4⟩)
  · rintro ⟨⟨p, hp, h1, h2⟩, h3⟩
    refine ⟨⟨p, (q.2.2.2.2.1 i hi p hp).mpr ⟨hsub p h1, h2⟩, h1⟩, Classical.byContradiction (fun c => ?_)⟩
    obtain ⟨p, h4, h5⟩ := and_ne.mp c
    rw [tvm_tb, decide_eq_true_iff] at h4
    exact h3 p h4.1 h5 h4.2.2
/-- the best keys -/
def isBst (r : Nat → Int64) (pa my : Nat → Int32) (f s : Nat) (B : Nat → Option Nat) : Prop := (∀ k, 64 ≤ k → B k = none) ∧ ∀ k, k < 64 → (B k = none ∧ ∀ x, gdK r pa my f s x → onK r pa my f s x = k → k = 0) ∨ ∃ m, B k = some m ∧ m < 1099511627776 ∧ 0 < k ∧ gdK r pa my f s m ∧ onK r pa my f s m = k ∧ ∀ x, gdK r pa my f s x → onK r pa my f s x = k → m ≤ x
theorem isBst_un {r : Nat → Int64} {pa my : Nat → Int32} {f s : Nat} {B B' : Nat → Option Nat} (q : isBst r pa my f s B) (q' : isBst r pa my f s B') : B = B' := by
  funext k
  rcases Nat.lt_or_ge k 64 with hk | hk
  case inr => rw [q.1 k hk, q'.1 k hk]
  rcases q.2 k hk with ⟨e, z⟩ | ⟨m, e, h1, h2, h3, h4, h5⟩
  · rcases q'.2 k hk with ⟨e', z'⟩ | ⟨m', e', h1', h2', h3', h4', h5'⟩
    · rw [e, e']
    · have := z m' h3' h4'
      omega
  · rcases q'.2 k hk with ⟨e', z'⟩ | ⟨m', e', h1', h2', h3', h4', h5'⟩
    · have := z' m h3 h4
      omega
    · have a1 := h5 m' h3' h4'
      have a2 := h5' m h3 h4
      rw [e, e', show m = m' by omega]
/-- the machine's row of best rules -/
def bsR (h : mH) (n : Nat) (K : Nat → Nat) (B : Nat → Option Nat) : Prop := ∀ k, k < 64 → (B k = none ∧ hI h 176 k = -1) ∨ ∃ i, i < n ∧ B k = some (K i) ∧ hI h 176 k = nI i
theorem bsR.fr {h h1 : mH} {n : Nat} {K : Nat → Nat} {B : Nat → Option Nat} {F A : List Nat} (q : bsR h n K B) (g : mFr (mP F A) h h1) (q1 : 41 ∉ F) (q2 : 153 ∉ A ∧ 176 ∉ A) : bsR h1 n K B := by
  unfold bsR
  rw [g.Ir (by decide) q2.2]
  exact q
theorem bs_fin {h h1 : mH} {r : Nat → Int64} {pa my : Nat → Int32} {f S n s : Nat} {K O : Nat → Nat} (q : ruL h r pa my f S n K O) (hs : s < 64) (hsub : ∀ p, s.testBit p = true → S.testBit p = true) (hb : bsI n (fun i => O i &&& s ≠ 0 ∧ tvm r pa my f S 2 (K i) 6 &&& s = 0) (fun i => tvm r pa my f S 1 (K i) 6 &&& s) K (hI h1 176)) : ∃ B, isBst r pa my f s B ∧ bsR h1 n K B := by
  have hn := q.2.1
  have hx : ∀ x, gdK r pa my f s x → ∃ i, i < n ∧ K i = x := fun x hx => by
    obtain ⟨⟨p, hp, h1, h2⟩, _⟩ := hx
    exact q.2.2.2.2.2.1 p hp (hsub p h1) x h2
  refine ⟨fun k => if 64 ≤ k then none else if hI h1 176 k = -1 then none else some (K (nOfI (hI h1 176 k))), ⟨fun k hk => if_pos hk, fun k hk => ?_⟩, fun k hk => ?_⟩
  · rcases hb k hk with ⟨e, z⟩ | ⟨i, hi, e, z1, z2, z3, z4⟩
    · refine Or.inl ⟨(if_neg (by omega)).trans (if_pos e), fun x h2 h3 => ?_⟩
      obtain ⟨i, hi, e2⟩ := hx x h2
      subst e2
      exact z i hi ((gdK_iff q hs hsub hi).mpr h2) ((tvm_and hs hsub).trans h3)
    · refine Or.inr ⟨K i, ?_, (q.2.2.1 i hi).1.2, z3, (gdK_iff q hs hsub hi).mp z1, (tvm_and hs hsub).symm.trans z2, fun x h2 h3 => ?_⟩
      · show (if 64 ≤ k then none else if hI h1 176 k = -1 then none else some (K (nOfI (hI h1 176 k)))) = _
        rw [if_neg (show ¬ 64 ≤ k by omega), if_neg (by rw [e]; exact nI_ne_m1 (by omega)), e, nOfI_nI (by omega)]
      · obtain ⟨j, hj, e2⟩ := hx x h2
        subst e2
        exact z4 j hj ((gdK_iff q hs hsub hj).mpr h2) ((tvm_and hs hsub).trans h3)
  · rcases hb k hk with ⟨e, z⟩ | ⟨i, hi, e, z1, z2, z3, z4⟩
    · exact Or.inl ⟨(if_neg (by omega)).trans (if_pos e), e⟩
    · refine Or.inr ⟨i, hi, ?_, e⟩
      show (if 64 ≤ k then none else if hI h1 176 k = -1 then none else some (K (nOfI (hI h1 176 k)))) = _
      rw [if_neg (show ¬ 64 ≤ k by omega), if_neg (by rw [e]; exact nI_ne_m1 (by omega)), e, nOfI_nI (by omega)]
set_option maxRecDepth 20000 in
theorem best_zero {h : mH} {Q : Option Value → mH → Prop} {s : Nat} (hs : mS h) (K9 : ∀ k h', mFr (mP [] [176]) h h' → (∀ j, j < 64 → hI h' 176 j = -1) → Wp mX12_laysBestRules 0 0 21 [some (.ref 153), some (.int (nI s)), some (.int (nI k)), none] [] h' Q) : Wp mX12_laysBestRules 0 0 2 [some (.ref 153), some (.int (nI s)), some (.int (nI 0)), none] [] h Q := by
  have hloop : ∀  (n : Nat) (k : Nat) (h1 : mH) (U : Nat → Int32), (k ≤ 64) → (mS h1) → (mFr (mP [] [176]) h h1) → (hI h1 176 = U) → (∀ j, j < k → U j = -1) → (64 < k + n) → Wp mX12_laysBestRules 0 0 2 [some (.ref 153), some (.int (nI s)), some (.int (nI k)), none] [] h1 Q := by
    intro n
    induction n with
    | zero => intros; omega
    | succ n ih =>
      intro k h1 U hk hs1 hf1 e1 hU hmz
      refine wp_iload_n dX12_laysBestRules_2 rfl rfl ?_
      refine wp_bipush (v := (nI 64)) dX12_laysBestRules_3 (by decide +kernel) ?_
      refine wp_icmp_geN dX12_laysBestRules_5 rfl rfl ⟨by omega, by omega⟩ (fun c1 => ?_) (fun c1 => ?_)
      · exact K9 _ _ hf1 (fun j hj => (congrFun e1 j).trans (hU j (by omega)))
      · refine wp_aload_n dX12_laysBestRules_8 rfl rfl ?_
        refine wp_getR dX12_laysBestRules_9 lX12_86 rfl (mO hs1) (mR_bestRule hs1) ?_
        refine wp_iload_n dX12_laysBestRules_12 rfl rfl ?_
        refine wp_iconst (v := (-1)) dX12_laysBestRules_13 (by decide +kernel) ?_
        refine wp_iastN dX12_laysBestRules_14 (mA_bestRule hs1) rfl ⟨by omega, by decide⟩ ?_
        refine sealAI e1 (fun hh1 f1 e1 => ?_)
        have S1 := f1.s hs1
        refine wp_iinc1 (ls1 := [_, _, some _, _]) dX12_laysBestRules_15 rfl (by decide) rfl ?_
        refine wp_goto dX12_laysBestRules_18 ?_
        refine ih (k + 1) _ _ (by omega) S1 ((hf1.up (by decide) (by decide)).tr (f1.up (by decide) (by decide))) e1 ?_ (by omega)
        intro j hj
        by_cases e9 : j = k
        · subst e9; exact upI_at _ _ _
        · rw [upI_ne e9]; exact hU j (by omega)
  exact hloop 65 0 h _ (by omega) hs mFr.rf rfl (fun j hj => by omega) (by omega)
set_option maxRecDepth 20000 in
theorem pX12_laysBestRules {h : mH} {Q : Option Value → mH → Prop} {r : Nat → Int64} {pa my : Nat → Int32} {f S n s : Nat} {K O : Nat → Nat} (hs : mS h) (rl : ruL h r pa my f S n K O) (hs64 : s < 64) (hsub : ∀ p, s.testBit p = true → S.testBit p = true) (K9 : ∀ h' B, mFr (mP [] [176]) h h' → isBst r pa my f s B → bsR h' n K B → Q none h') : Wp mX12_laysBestRules 0 0 0 [some (.ref 153), some (.int (nI s)), none, none] [] h Q := by
  have hn9 := rl.2.1
  have hloop : ∀  (t : Nat) (i : Nat) (x3 : Option Value) (h1 : mH) (U : Nat → Int32), (i ≤ n) → (mS h1) → (ruL h1 r pa my f S n K O) → (mFr (mP [] [176]) h h1) → (hI h1 176 = U) → (bsI i (fun i => O i &&& s ≠ 0 ∧ tvm r pa my f S 2 (K i) 6 &&& s = 0) (fun i => tvm r pa my f S 1 (K i) 6 &&& s) K U) → (n < i + t) → Wp mX12_laysBestRules 0 0 23 [some (.ref 153), some (.int (nI s)), some (.int (nI i)), x3] [] h1 Q := by
    intro t
    induction t with
    | zero => intros; omega
    | succ t ih =>
      intro i x3 h1 U hi hs1 rl1 hf1 e1 hb hmz
      have hn := rl1.2.1
      refine wp_iload_n dX12_laysBestRules_23 rfl rfl ?_
      refine wp_aload_n dX12_laysBestRules_24 rfl rfl ?_
      refine wp_getIV dX12_laysBestRules_25 lX12_378 rfl (mO hs1) rl1.1 ?_
      refine wp_icmp_geN dX12_laysBestRules_28 rfl rfl ⟨by omega, by omega⟩ (fun c1 => ?_) (fun c1 => ?_)
      · refine wp_vreturn dX12_laysBestRules_113 rfl ?_
        have e9 : i = n := by omega
        subst e9
        subst e1
        obtain ⟨B, b1, b2⟩ := bs_fin rl1 hs64 hsub hb
        exact K9 _ B hf1 b1 b2
      · refine wp_aload_n dX12_laysBestRules_31 rfl rfl ?_
        refine wp_getR dX12_laysBestRules_32 lX12_73 rfl (mO hs1) (mR_of hs1) ?_
        refine wp_iload_n dX12_laysBestRules_35 rfl rfl ?_
        refine wp_ialdV dX12_laysBestRules_36 (mA_of hs1) rfl ⟨by omega, by decide⟩ (rl1.2.2.1 i (by omega)).2.1.1 ?_
        refine wp_iload_n dX12_laysBestRules_37 rfl rfl ?_
        refine wp_iand dX12_laysBestRules_38 ?_
        rw [nx_and]
        refine wp_if_eqN dX12_laysBestRules_39 rfl (Nat.lt_of_le_of_lt Nat.and_le_right (by omega)) (fun c2 => ?_) (fun c2 => ?_)
        · refine wp_iinc1 (ls1 := [_, _, some _, _]) dX12_laysBestRules_107 rfl (by decide) rfl ?_
          refine wp_goto dX12_laysBestRules_110 ?_
          refine ih (i + 1) _ _ _ (by omega) hs1 rl1 (hf1.up (by decide) (by decide)) e1 ?_ (by omega)
          first | exact bsI_set hb ⟨by omega, by assumption⟩ rfl (by assumption) (fun j hj g o => absurd (nb j hj g o) (by omega)) | exact bsI_set hb ⟨by omega, by assumption⟩ rfl (by assumption) (fun j hj g o => Nat.le_trans (by have h9 : ¬ K i9 ≤ K i := fun q9 => (by assumption : ¬ lN (K i9) ≤ lN (K i)) ((pk_lLE (by have := (rl1.2.2.1 i9 (by omega)).1.2; omega) (by have := (rl1.2.2.1 i (by omega)).1.2; omega)).mpr q9); omega) (l9 j hj g o)) | exact bsI_keep hb rfl (fun j hj g o l => by have h9 := (pk_lLE (by have := (rl1.2.2.1 i9 (by omega)).1.2; omega) (by have := (rl1.2.2.1 i (by omega)).1.2; omega)).mp (by assumption : lN (K i9) ≤ lN (K i)); have h8 := l i9 hi9 g9 o9; omega) ⟨hi9, g9, o9⟩ | exact bsI_no hb (Or.inl (fun z => by omega)) | exact bsI_no hb (Or.inr (by assumption))
        · refine wp_aload_n dX12_laysBestRules_42 rfl rfl ?_
          refine wp_getR dX12_laysBestRules_43 lX12_79 rfl (mO hs1) (mR_wrongs hs1) ?_
          refine wp_iload_n dX12_laysBestRules_46 rfl rfl ?_
          refine wp_ialdV dX12_laysBestRules_47 (mA_wrongs hs1) rfl ⟨by omega, by decide⟩ (rl1.2.2.1 i (by omega)).2.2.2 ?_
          refine wp_iload_n dX12_laysBestRules_48 rfl rfl ?_
          refine wp_iand dX12_laysBestRules_49 ?_
          rw [nx_and]
          refine wp_if_eqN dX12_laysBestRules_50 rfl (Nat.lt_of_le_of_lt Nat.and_le_right (by omega)) (fun c3 => ?_) (fun c3 => ?_)
          · refine wp_aload_n dX12_laysBestRules_56 rfl rfl ?_
            refine wp_getR dX12_laysBestRules_57 lX12_76 rfl (mO hs1) (mR_rights hs1) ?_
            refine wp_iload_n dX12_laysBestRules_60 rfl rfl ?_
            refine wp_ialdV dX12_laysBestRules_61 (mA_rights hs1) rfl ⟨by omega, by decide⟩ (rl1.2.2.1 i (by omega)).2.2.1 ?_
            refine wp_iload_n dX12_laysBestRules_62 rfl rfl ?_
            refine wp_iand dX12_laysBestRules_63 ?_
            rw [nx_and]
            refine wp_istore_n (ls1 := [_, _, _, some _]) dX12_laysBestRules_64 rfl (by decide) rfl ?_
            refine wp_iload_n dX12_laysBestRules_65 rfl rfl ?_
            refine wp_if_eqN dX12_laysBestRules_66 rfl (Nat.lt_of_le_of_lt Nat.and_le_right (by omega)) (fun c4 => ?_) (fun c4 => ?_)
            · refine wp_iinc1 (ls1 := [_, _, some _, _]) dX12_laysBestRules_107 rfl (by decide) rfl ?_
              refine wp_goto dX12_laysBestRules_110 ?_
              refine ih (i + 1) _ _ _ (by omega) hs1 rl1 (hf1.up (by decide) (by decide)) e1 ?_ (by omega)
              first | exact bsI_set hb ⟨by omega, by assumption⟩ rfl (by assumption) (fun j hj g o => absurd (nb j hj g o) (by omega)) | exact bsI_set hb ⟨by omega, by assumption⟩ rfl (by assumption) (fun j hj g o => Nat.le_trans (by have h9 : ¬ K i9 ≤ K i := fun q9 => (by assumption : ¬ lN (K i9) ≤ lN (K i)) ((pk_lLE (by have := (rl1.2.2.1 i9 (by omega)).1.2; omega) (by have := (rl1.2.2.1 i (by omega)).1.2; omega)).mpr q9); omega) (l9 j hj g o)) | exact bsI_keep hb rfl (fun j hj g o l => by have h9 := (pk_lLE (by have := (rl1.2.2.1 i9 (by omega)).1.2; omega) (by have := (rl1.2.2.1 i (by omega)).1.2; omega)).mp (by assumption : lN (K i9) ≤ lN (K i)); have h8 := l i9 hi9 g9 o9; omega) ⟨hi9, g9, o9⟩ | exact bsI_no hb (Or.inl (fun z => by omega)) | exact bsI_no hb (Or.inr (by assumption))
            · refine wp_aload_n dX12_laysBestRules_69 rfl rfl ?_
              refine wp_getR dX12_laysBestRules_70 lX12_86 rfl (mO hs1) (mR_bestRule hs1) ?_
              refine wp_iload_n dX12_laysBestRules_73 rfl rfl ?_
              refine wp_ialdV dX12_laysBestRules_74 (mA_bestRule hs1) rfl ⟨Nat.lt_of_le_of_lt Nat.and_le_right (by omega), by decide⟩ (congrFun e1 _) ?_
              rcases hb _ (Nat.lt_of_le_of_lt Nat.and_le_right hs64) with ⟨eb, nb⟩ | ⟨i9, hi9, eb, g9, o9, z9, l9⟩
              · rw [eb]
                refine wp_iconst (v := (-1)) dX12_laysBestRules_75 (by decide +kernel) ?_
                refine wp_icmp_eq dX12_laysBestRules_76 (fun _ => ?_) (fun q => absurd (by decide +kernel) q)
                refine wp_aload_n dX12_laysBestRules_100 rfl rfl ?_
                refine wp_getR dX12_laysBestRules_101 lX12_86 rfl (mO hs1) (mR_bestRule hs1) ?_
                refine wp_iload_n dX12_laysBestRules_104 rfl rfl ?_
                refine wp_iload_n dX12_laysBestRules_105 rfl rfl ?_
                refine wp_iastN dX12_laysBestRules_106 (mA_bestRule hs1) rfl ⟨Nat.lt_of_le_of_lt Nat.and_le_right (by omega), by decide⟩ ?_
                refine sealAI e1 (fun hh1 f1 e1 => ?_)
                have S1 := f1.s hs1
                have rl1 := rl1.fr f1 (by decide) (by decide)
                refine wp_iinc1 (ls1 := [_, _, some _, _]) dX12_laysBestRules_107 rfl (by decide) rfl ?_
                refine wp_goto dX12_laysBestRules_110 ?_
                refine ih (i + 1) _ _ _ (by omega) S1 rl1 ((hf1.up (by decide) (by decide)).tr (f1.up (by decide) (by decide))) e1 ?_ (by omega)
                first | exact bsI_set hb ⟨by omega, by assumption⟩ rfl (by assumption) (fun j hj g o => absurd (nb j hj g o) (by omega)) | exact bsI_set hb ⟨by omega, by assumption⟩ rfl (by assumption) (fun j hj g o => Nat.le_trans (by have h9 : ¬ K i9 ≤ K i := fun q9 => (by assumption : ¬ lN (K i9) ≤ lN (K i)) ((pk_lLE (by have := (rl1.2.2.1 i9 (by omega)).1.2; omega) (by have := (rl1.2.2.1 i (by omega)).1.2; omega)).mpr q9); omega) (l9 j hj g o)) | exact bsI_keep hb rfl (fun j hj g o l => by have h9 := (pk_lLE (by have := (rl1.2.2.1 i9 (by omega)).1.2; omega) (by have := (rl1.2.2.1 i (by omega)).1.2; omega)).mp (by assumption : lN (K i9) ≤ lN (K i)); have h8 := l i9 hi9 g9 o9; omega) ⟨hi9, g9, o9⟩ | exact bsI_no hb (Or.inl (fun z => by omega)) | exact bsI_no hb (Or.inr (by assumption))
              · rw [eb]
                refine wp_iconst (v := (-1)) dX12_laysBestRules_75 (by decide +kernel) ?_
                refine wp_icmp_eq dX12_laysBestRules_76 (fun q => absurd q (nI_ne_m1 (by omega))) (fun _ => ?_)
                refine wp_aload_n dX12_laysBestRules_79 rfl rfl ?_
                refine wp_getR dX12_laysBestRules_80 lX12_70 rfl (mO hs1) (mR_key hs1) ?_
                refine wp_iload_n dX12_laysBestRules_83 rfl rfl ?_
                refine wp_laldV dX12_laysBestRules_84 (mA_key hs1) rfl ⟨by omega, by decide⟩ (rl1.2.2.1 i (by omega)).1.1 ?_
                refine wp_aload_n dX12_laysBestRules_85 rfl rfl ?_
                refine wp_getR dX12_laysBestRules_86 lX12_70 rfl (mO hs1) (mR_key hs1) ?_
                refine wp_aload_n dX12_laysBestRules_89 rfl rfl ?_
                refine wp_getR dX12_laysBestRules_90 lX12_86 rfl (mO hs1) (mR_bestRule hs1) ?_
                refine wp_iload_n dX12_laysBestRules_93 rfl rfl ?_
                refine wp_ialdV dX12_laysBestRules_94 (mA_bestRule hs1) rfl ⟨Nat.lt_of_le_of_lt Nat.and_le_right (by omega), by decide⟩ ((congrFun e1 _).trans eb) ?_
                refine wp_laldV dX12_laysBestRules_95 (mA_key hs1) rfl ⟨by omega, by decide⟩ (rl1.2.2.1 i9 (by omega)).1.1 ?_
                refine wp_lc_ge dX12_laysBestRules_96 dX12_laysBestRules_97 (fun c7 => ?_) (fun c7 => ?_)
                · refine wp_iinc1 (ls1 := [_, _, some _, _]) dX12_laysBestRules_107 rfl (by decide) rfl ?_
                  refine wp_goto dX12_laysBestRules_110 ?_
                  refine ih (i + 1) _ _ _ (by omega) hs1 rl1 (hf1.up (by decide) (by decide)) e1 ?_ (by omega)
                  first | exact bsI_set hb ⟨by omega, by assumption⟩ rfl (by assumption) (fun j hj g o => absurd (nb j hj g o) (by omega)) | exact bsI_set hb ⟨by omega, by assumption⟩ rfl (by assumption) (fun j hj g o => Nat.le_trans (by have h9 : ¬ K i9 ≤ K i := fun q9 => (by assumption : ¬ lN (K i9) ≤ lN (K i)) ((pk_lLE (by have := (rl1.2.2.1 i9 (by omega)).1.2; omega) (by have := (rl1.2.2.1 i (by omega)).1.2; omega)).mpr q9); omega) (l9 j hj g o)) | exact bsI_keep hb rfl (fun j hj g o l => by have h9 := (pk_lLE (by have := (rl1.2.2.1 i9 (by omega)).1.2; omega) (by have := (rl1.2.2.1 i (by omega)).1.2; omega)).mp (by assumption : lN (K i9) ≤ lN (K i)); have h8 := l i9 hi9 g9 o9; omega) ⟨hi9, g9, o9⟩ | exact bsI_no hb (Or.inl (fun z => by omega)) | exact bsI_no hb (Or.inr (by assumption))
                · refine wp_aload_n dX12_laysBestRules_100 rfl rfl ?_
                  refine wp_getR dX12_laysBestRules_101 lX12_86 rfl (mO hs1) (mR_bestRule hs1) ?_
                  refine wp_iload_n dX12_laysBestRules_104 rfl rfl ?_
                  refine wp_iload_n dX12_laysBestRules_105 rfl rfl ?_
                  refine wp_iastN dX12_laysBestRules_106 (mA_bestRule hs1) rfl ⟨Nat.lt_of_le_of_lt Nat.and_le_right (by omega), by decide⟩ ?_
                  refine sealAI e1 (fun hh2 f2 e2 => ?_)
                  have S2 := f2.s hs1
                  have rl2 := rl1.fr f2 (by decide) (by decide)
                  refine wp_iinc1 (ls1 := [_, _, some _, _]) dX12_laysBestRules_107 rfl (by decide) rfl ?_
                  refine wp_goto dX12_laysBestRules_110 ?_
                  refine ih (i + 1) _ _ _ (by omega) S2 rl2 ((hf1.up (by decide) (by decide)).tr (f2.up (by decide) (by decide))) e2 ?_ (by omega)
                  first | exact bsI_set hb ⟨by omega, by assumption⟩ rfl (by assumption) (fun j hj g o => absurd (nb j hj g o) (by omega)) | exact bsI_set hb ⟨by omega, by assumption⟩ rfl (by assumption) (fun j hj g o => Nat.le_trans (by have h9 : ¬ K i9 ≤ K i := fun q9 => (by assumption : ¬ lN (K i9) ≤ lN (K i)) ((pk_lLE (by have := (rl1.2.2.1 i9 (by omega)).1.2; omega) (by have := (rl1.2.2.1 i (by omega)).1.2; omega)).mpr q9); omega) (l9 j hj g o)) | exact bsI_keep hb rfl (fun j hj g o l => by have h9 := (pk_lLE (by have := (rl1.2.2.1 i9 (by omega)).1.2; omega) (by have := (rl1.2.2.1 i (by omega)).1.2; omega)).mp (by assumption : lN (K i9) ≤ lN (K i)); have h8 := l i9 hi9 g9 o9; omega) ⟨hi9, g9, o9⟩ | exact bsI_no hb (Or.inl (fun z => by omega)) | exact bsI_no hb (Or.inr (by assumption))
          · refine wp_goto dX12_laysBestRules_53 ?_
            refine wp_iinc1 (ls1 := [_, _, some _, _]) dX12_laysBestRules_107 rfl (by decide) rfl ?_
            refine wp_goto dX12_laysBestRules_110 ?_
            refine ih (i + 1) _ _ _ (by omega) hs1 rl1 (hf1.up (by decide) (by decide)) e1 ?_ (by omega)
            first | exact bsI_set hb ⟨by omega, by assumption⟩ rfl (by assumption) (fun j hj g o => absurd (nb j hj g o) (by omega)) | exact bsI_set hb ⟨by omega, by assumption⟩ rfl (by assumption) (fun j hj g o => Nat.le_trans (by have h9 : ¬ K i9 ≤ K i := fun q9 => (by assumption : ¬ lN (K i9) ≤ lN (K i)) ((pk_lLE (by have := (rl1.2.2.1 i9 (by omega)).1.2; omega) (by have := (rl1.2.2.1 i (by omega)).1.2; omega)).mpr q9); omega) (l9 j hj g o)) | exact bsI_keep hb rfl (fun j hj g o l => by have h9 := (pk_lLE (by have := (rl1.2.2.1 i9 (by omega)).1.2; omega) (by have := (rl1.2.2.1 i (by omega)).1.2; omega)).mp (by assumption : lN (K i9) ≤ lN (K i)); have h8 := l i9 hi9 g9 o9; omega) ⟨hi9, g9, o9⟩ | exact bsI_no hb (Or.inl (fun z => by omega)) | exact bsI_no hb (Or.inr (by assumption))
  refine wp_iconst (v := (nI 0)) dX12_laysBestRules_0 (by decide +kernel) ?_
  refine wp_istore_n (ls1 := [_, _, some _, _]) dX12_laysBestRules_1 rfl (by decide) rfl ?_
  refine best_zero hs (fun k1 hh1 f1 z1 => ?_)
  have S1 := f1.s hs
  have rl1 := rl.fr f1 (by decide) (by decide)
  refine wp_iconst (v := (nI 0)) dX12_laysBestRules_21 (by decide +kernel) ?_
  refine wp_istore_n (ls1 := [_, _, some _, _]) dX12_laysBestRules_22 rfl (by decide) rfl ?_
  exact hloop (n + 1) 0 _ _ _ (by omega) S1 rl1 (f1.up (by decide) (by decide)) rfl (fun k hk => Or.inl ⟨z1 k hk, fun i hi => by omega⟩) (by omega)
