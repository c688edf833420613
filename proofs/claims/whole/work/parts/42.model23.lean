/-! ===== rules that can be ===== -/
theorem itC_itm {c : Nat} (hc : c < 256) : itC (itm c) = cs c := by
  unfold itC itm cs
  by_cases h : c = 0
  · rw [if_pos h, if_pos h, if_pos rfl]
  · rw [if_neg h, if_neg h, if_neg (nI_ne_m1 (by omega))]
    by_cases h2 : c < 4
    · rw [if_pos h2, if_pos (nI_lt (by omega) (by omega))]
    · rw [if_neg h2, if_neg (nI_nlt (by omega) (by omega))]
theorem isOf_v {s p : Nat} (hs : s < 64) (hp : p < 32) : (nI s >>> (nI p &&& 31)) &&& nI 1 = nI (s / 2 ^ p % 2) := by
  rw [nx_sshr (by omega) hp, pk_andN (m := nI 1) (Nat.lt_of_le_of_lt (Nat.div_le_self _ _) (by omega)) 1 (by decide +kernel)]
theorem tb_div (s p : Nat) : s.testBit p = decide (s / 2 ^ p % 2 = 1) := Nat.testBit_eq_decide_div_mod_eq
def pc6 (s : Nat) : Nat → Nat
  | 0 => 0
  | k + 1 => pc6 s k + s / 2 ^ k % 2
theorem pc6_le (s : Nat) : ∀ k, pc6 s k ≤ k
  | 0 => Nat.le_refl _
  | k + 1 => by
    have := pc6_le s k
    have := Nat.mod_lt (s / 2 ^ k) (show 0 < 2 by decide)
    unfold pc6
    omega
/-- by which pages a rule can be -/
def rul (h : mH) (B : Nat → Nat → Prop) (n : Nat) (K O T : Nat → Nat) : Prop := hI h 153 41 = nI n ∧ (∀ i, i < n → hL h 171 i = lN (K i) ∧ K i < 1099511627776) ∧ (∀ i, i < n → hI h 172 i = nI (O i) ∧ O i < 64) ∧ (∀ s, s < 32768 → hI h 175 s = nI (T s)) ∧ hsh kH K n T ∧ (∀ i j, i < n → j < n → K i = K j → i = j) ∧ (∀ i, i < n → ∀ p, p < 6 → ((O i).testBit p = true ↔ B p (K i))) ∧ (∀ p, p < 6 → ∀ k, B p k → ∃ i, i < n ∧ K i = k) ∧ ∀ i, i < n → ∃ p, p < 6 ∧ B p (K i)
def rulX (h : mH) (B : Nat → Nat → Prop) (n : Nat) : Prop := ∃ K O T, rul h B n K O T
theorem rul.fr {h h1 : mH} {B : Nat → Nat → Prop} {n : Nat} {K O T : Nat → Nat} {F A : List Nat} (q : rul h B n K O T) (g : mFr (mP F A) h h1) (q1 : 41 ∉ F) (q2 : 153 ∉ A ∧ 171 ∉ A ∧ 172 ∉ A ∧ 175 ∉ A) : rul h1 B n K O T := by
  refine ⟨(g.fI 41 q1 q2.1).trans q.1, ?_, ?_, ?_, q.2.2.2.2⟩
  · rw [g.Lr (by decide) q2.2.1]
    exact q.2.1
  · rw [g.Ir (by decide) q2.2.2.1]
    exact q.2.2.1
  · rw [g.Ir (by decide) q2.2.2.2]
    exact q.2.2.2.1
theorem rulX.fr {h h1 : mH} {B : Nat → Nat → Prop} {n : Nat} {F A : List Nat} (q : rulX h B n) (g : mFr (mP F A) h h1) (q1 : 41 ∉ F) (q2 : 153 ∉ A ∧ 171 ∉ A ∧ 172 ∉ A ∧ 175 ∉ A) : rulX h1 B n := by
  obtain ⟨K, O, T, q⟩ := q
  exact ⟨K, O, T, q.fr g q1 q2⟩
theorem rulX.cg {h : mH} {B B' : Nat → Nat → Prop} {n : Nat} (q : rulX h B n) (e : ∀ p k, B p k ↔ B' p k) : rulX h B' n := by
  have : B = B' := by
    funext p k
    exact propext (e p k)
  rw [← this]
  exact q
def addB (B : Nat → Nat → Prop) (p k : Nat) : Nat → Nat → Prop := fun q x => B q x ∨ (q = p ∧ x = k)
theorem lt64_or {a b : Nat} (ha : a < 64) (hb : b < 64) : a ||| b < 64 := Nat.or_lt_two_pow (n := 6) ha hb
theorem two_lt {p : Nat} (hp : p < 6) : 2 ^ p < 64 := Nat.pow_lt_pow_right (a := 2) (m := p) (n := 6) (by decide) hp
theorem tb_two {p q : Nat} : (2 ^ p).testBit q = decide (p = q) := Nat.testBit_two_pow
theorem rul_new {h h' : mH} {B : Nat → Nat → Prop} {n k p d : Nat} {K O T : Nat → Nat} {V : Int32} (q : rul h B n K O T) (hk : k < 1099511627776) (hp : p < 6) (hw : ∀ e, e < d → T ((kH k + e) % 32768) ≠ 0 ∧ K (T ((kH k + e) % 32768) - 1) ≠ k) (h0 : T ((kH k + d) % 32768) = 0) (e1 : hI h' 153 41 = nI (n + 1)) (e2 : hL h' 171 = up1 (hL h 171) n (lN k)) (e3 : hI h' 172 = upI (upI (hI h 172) n (nI 0)) n V) (eV : V = nI (2 ^ p)) (e4 : hI h' 175 = upI (hI h 175) ((kH k + d) % 32768) (nI (n + 1))) : rulX h' (addB B p k) (n + 1) := by
  have hno := hsh_no q.2.2.2.2.1 hw h0
  refine ⟨fun i => if i = n then k else K i, fun i => if i = n then 2 ^ p else O i, fun s => if s = (kH k + d) % 32768 then n + 1 else T s, e1, fun i hi => ?_, fun i hi => ?_, fun s hs => ?_, hsh_add q.2.2.2.2.1 (fun e he => (hw e he).1) h0, fun i j hi hj e => ?_, fun i hi p' hp' => ?_, fun p' hp' x hx => ?_, fun i hi => ?_⟩
  · rw [e2]
    by_cases c : i = n
    · subst c
      simp only [if_true]
      exact ⟨up1_at _ _ _, hk⟩
    · simp only [if_neg c]
      rw [up1_ne c]
      exact q.2.1 i (by omega)
  · rw [e3]
    by_cases c : i = n
    · subst c
      simp only [if_true]
      exact ⟨(upI_at _ _ _).trans eV, two_lt hp⟩
    · simp only [if_neg c]
      rw [upI_ne c, upI_ne c]
      exact q.2.2.1 i (by omega)
  · rw [e4]
    by_cases c : s = (kH k + d) % 32768
    · subst c
      simp only [if_true]
      exact upI_at _ _ _
    · simp only [if_neg c]
      rw [upI_ne c]
      exact q.2.2.2.1 s hs
  · by_cases ci : i = n
    · by_cases cj : j = n
      · omega
      · simp only [if_pos ci, if_neg cj] at e
        exact absurd e.symm (hno j (by omega))
    · by_cases cj : j = n
      · simp only [if_neg ci, if_pos cj] at e
        exact absurd e (hno i (by omega))
      · simp only [if_neg ci, if_neg cj] at e
        exact q.2.2.2.2.2.1 i j (by omega) (by omega) e
  · by_cases c : i = n
    · simp only [if_pos c]
      rw [tb_two, decide_eq_true_iff]
      refine ⟨fun z => Or.inr ⟨z.symm, rfl⟩, fun z => ?_⟩
      rcases z with z | z
      · obtain ⟨j, hj, e⟩ := q.2.2.2.2.2.2.2.1 p' hp' k z
        exact absurd e (hno j hj)
      · exact z.1.symm
    · simp only [if_neg c]
      refine (q.2.2.2.2.2.2.1 i (by omega) p' hp').trans ⟨fun z => Or.inl z, fun z => ?_⟩
      rcases z with z | z
      · exact z
      · exact absurd z.2 (hno i (by omega))
  · rcases hx with z | z
    · obtain ⟨j, hj, e⟩ := q.2.2.2.2.2.2.2.1 p' hp' x z
      refine ⟨j, by omega, ?_⟩
      simp only [if_neg (show ¬ j = n by omega)]
      exact e
    · refine ⟨n, by omega, ?_⟩
      simp only [if_true]
      exact z.2.symm
  · by_cases c : i = n
    · exact ⟨p, hp, Or.inr ⟨rfl, if_pos c⟩⟩
    · obtain ⟨p', hp', z⟩ := q.2.2.2.2.2.2.2.2 i (by omega)
      exact ⟨p', hp', Or.inl (by simp only [if_neg c]; exact z)⟩
theorem rul_old {h h' : mH} {B : Nat → Nat → Prop} {n k p j : Nat} {K O T : Nat → Nat} {V : Int32} (q : rul h B n K O T) (hj : j < n) (hkj : K j = k) (hp : p < 6) (e1 : hI h' 153 41 = nI n) (e2 : hL h' 171 = hL h 171) (e3 : hI h' 172 = upI (hI h 172) j V) (eV : V = nI (O j ||| 2 ^ p)) (e4 : hI h' 175 = hI h 175) : rulX h' (addB B p k) n := by
  refine ⟨K, fun i => if i = j then O j ||| 2 ^ p else O i, T, e1, ?_, fun i hi => ?_, ?_, q.2.2.2.2.1, q.2.2.2.2.2.1, fun i hi p' hp' => ?_, fun p' hp' x hx => ?_, fun i hi => ?_⟩
  · rw [e2]
    exact q.2.1
  · rw [e3]
    by_cases c : i = j
    · subst c
      simp only [if_true]
      exact ⟨(upI_at _ _ _).trans eV, lt64_or (q.2.2.1 i hi).2 (two_lt hp)⟩
    · simp only [if_neg c]
      rw [upI_ne c]
      exact q.2.2.1 i hi
  · rw [e4]
    exact q.2.2.2.1
  · by_cases c : i = j
    · subst c
      simp only [if_true]
      rw [Nat.testBit_or, tb_two, Bool.or_eq_true, decide_eq_true_iff, q.2.2.2.2.2.2.1 i hi p' hp']
      exact ⟨fun z => z.elim Or.inl (fun w => Or.inr ⟨w.symm, hkj⟩), fun z => z.elim Or.inl (fun w => Or.inr w.1.symm)⟩
    · simp only [if_neg c]
      refine (q.2.2.2.2.2.2.1 i hi p' hp').trans ⟨fun z => Or.inl z, fun z => ?_⟩
      rcases z with z | z
      · exact z
      · exact absurd (q.2.2.2.2.2.1 i j hi hj (z.2.trans hkj.symm)) c
  · rcases hx with z | z
    · exact q.2.2.2.2.2.2.2.1 p' hp' x z
    · exact ⟨j, hj, hkj.trans z.2.symm⟩
  · obtain ⟨p', hp', z⟩ := q.2.2.2.2.2.2.2.2 i hi
    exact ⟨p', hp', Or.inl z⟩
set_option maxRecDepth 20000 in
theorem pX12_keyOf {h : mH} {Q : Option Value → mH → Prop} {a b c d : Nat} (ha : a < 256) (hb : b < 256) (hc : c < 256) (hd : d < 256) (hq : Q (some (.long (lN (kN a b c d)))) h) : Wp mX12_keyOf 1 20 0 [some (.int (itm a)), some (.int (itm b)), some (.int (itm c)), some (.int (itm d)), none, none] [] h Q := by
  refine wp_iload_n dX12_keyOf_0 rfl rfl ?_
  refine wp_cS1 0 0 [some _] dX12_keyOf_1 tX12_costOf sX12_costOf lX12_367 ⟨by decide, by decide⟩ (Nat.le_of_ble_eq_true rfl) (Nat.le_of_ble_eq_true rfl) rfl ?_
  refine pX12_costOf ?_
  intro _ _
  refine wp_iload_n dX12_keyOf_4 rfl rfl ?_
  refine wp_cS1 0 0 [some _] dX12_keyOf_5 tX12_costOf sX12_costOf lX12_367 ⟨by decide, by decide⟩ (Nat.le_of_ble_eq_true rfl) (Nat.le_of_ble_eq_true rfl) rfl ?_
  refine pX12_costOf ?_
  intro _ _
  refine wp_iadd dX12_keyOf_8 ?_
  refine wp_iload_n dX12_keyOf_9 rfl rfl ?_
  refine wp_cS1 0 0 [some _] dX12_keyOf_10 tX12_costOf sX12_costOf lX12_367 ⟨by decide, by decide⟩ (Nat.le_of_ble_eq_true rfl) (Nat.le_of_ble_eq_true rfl) rfl ?_
  refine pX12_costOf ?_
  intro _ _
  refine wp_iadd dX12_keyOf_13 ?_
  refine wp_iload_n dX12_keyOf_14 rfl rfl ?_
  refine wp_cS1 0 0 [some _] dX12_keyOf_15 tX12_costOf sX12_costOf lX12_367 ⟨by decide, by decide⟩ (Nat.le_of_ble_eq_true rfl) (Nat.le_of_ble_eq_true rfl) rfl ?_
  refine pX12_costOf ?_
  intro _ _
  refine wp_iadd dX12_keyOf_18 ?_
  refine wp_i2l dX12_keyOf_19 ?_
  refine wp_lstore (ls1 := [_, _, _, _, some _, _]) dX12_keyOf_20 (by decide) rfl ?_
  refine wp_lload dX12_keyOf_22 rfl ?_
  refine wp_bipush (v := (nI 8)) dX12_keyOf_24 (by decide +kernel) ?_
  refine wp_lshl dX12_keyOf_26 ?_
  refine wp_iload_n dX12_keyOf_27 rfl rfl ?_
  refine wp_iconst (v := (nI 1)) dX12_keyOf_28 (by decide +kernel) ?_
  refine wp_iadd dX12_keyOf_29 ?_
  refine wp_i2l dX12_keyOf_30 ?_
  refine wp_lor dX12_keyOf_31 ?_
  refine wp_bipush (v := (nI 8)) dX12_keyOf_32 (by decide +kernel) ?_
  refine wp_lshl dX12_keyOf_34 ?_
  refine wp_iload_n dX12_keyOf_35 rfl rfl ?_
  refine wp_iconst (v := (nI 1)) dX12_keyOf_36 (by decide +kernel) ?_
  refine wp_iadd dX12_keyOf_37 ?_
  refine wp_i2l dX12_keyOf_38 ?_
  refine wp_lor dX12_keyOf_39 ?_
  refine wp_bipush (v := (nI 8)) dX12_keyOf_40 (by decide +kernel) ?_
  refine wp_lshl dX12_keyOf_42 ?_
  refine wp_iload_n dX12_keyOf_43 rfl rfl ?_
  refine wp_iconst (v := (nI 1)) dX12_keyOf_44 (by decide +kernel) ?_
  refine wp_iadd dX12_keyOf_45 ?_
  refine wp_i2l dX12_keyOf_46 ?_
  refine wp_lor dX12_keyOf_47 ?_
  refine wp_bipush (v := (nI 8)) dX12_keyOf_48 (by decide +kernel) ?_
  refine wp_lshl dX12_keyOf_50 ?_
  refine wp_iload_n dX12_keyOf_51 rfl rfl ?_
  refine wp_iconst (v := (nI 1)) dX12_keyOf_52 (by decide +kernel) ?_
  refine wp_iadd dX12_keyOf_53 ?_
  refine wp_i2l dX12_keyOf_54 ?_
  refine wp_lor dX12_keyOf_55 ?_
  refine wp_lreturn dX12_keyOf_56 rfl ?_
  rw [itC_itm ha, itC_itm hb, itC_itm hc, itC_itm hd, nI_add, nI_add, nI_add, itm_p1, itm_p1, itm_p1, itm_p1, keyN ha hb hc hd]
  exact hq
set_option maxRecDepth 20000 in
theorem pX12_itemOf {h : mH} {Q : Option Value → mH → Prop} {k w : Nat} (hk : k < 1099511627776) (hw : w < 4) (hq : Q (some (.int (itm (kI k w)))) h) : Wp mX12_itemOf 0 0 0 [some (.long (lN k)), none, some (.int (nI w))] [] h Q := by
  refine wp_lload_n dX12_itemOf_0 rfl rfl ?_
  refine wp_bipush (v := (nI 8)) dX12_itemOf_1 (by decide +kernel) ?_
  refine wp_iconst (v := (nI 3)) dX12_itemOf_3 (by decide +kernel) ?_
  refine wp_iload_n dX12_itemOf_4 rfl rfl ?_
  refine wp_isub dX12_itemOf_5 ?_
  refine wp_imul dX12_itemOf_6 ?_
  refine wp_lshr dX12_itemOf_7 ?_
  refine wp_ldc2 dX12_itemOf_8 lX12_265 ?_
  refine wp_land dX12_itemOf_11 ?_
  refine wp_l2i dX12_itemOf_12 ?_
  refine wp_iconst (v := (nI 1)) dX12_itemOf_13 (by decide +kernel) ?_
  refine wp_isub dX12_itemOf_14 ?_
  refine wp_ireturn dX12_itemOf_15 rfl ?_
  rw [itmN hk hw]
  exact hq
set_option maxRecDepth 20000 in
theorem pX12_costOfKey {h : mH} {Q : Option Value → mH → Prop} {k : Nat} (hk : k < 1099511627776) (hq : Q (some (.int (nI (k / 4294967296)))) h) : Wp mX12_costOfKey 0 0 0 [some (.long (lN k)), none] [] h Q := by
  refine wp_lload_n dX12_costOfKey_0 rfl rfl ?_
  refine wp_bipush (v := (nI 32)) dX12_costOfKey_1 (by decide +kernel) ?_
  refine wp_lshr dX12_costOfKey_3 ?_
  refine wp_l2i dX12_costOfKey_4 ?_
  refine wp_ireturn dX12_costOfKey_5 rfl ?_
  rw [costN hk]
  exact hq
set_option maxRecDepth 20000 in
theorem pX12_isOf {h : mH} {Q : Option Value → mH → Prop} {s p : Nat} (hs : s < 64) (hp : p < 16) (ht : s.testBit p = true → Q (some (.int (nI 1))) h) (hf : s.testBit p = false → Q (some (.int (nI 0))) h) : Wp mX12_isOf 0 0 0 [some (.int (nI s)), some (.int (nI p))] [] h Q := by
  refine wp_iload_n dX12_isOf_0 rfl rfl ?_
  refine wp_iload_n dX12_isOf_1 rfl rfl ?_
  refine wp_ishr dX12_isOf_2 ?_
  refine wp_iconst (v := (nI 1)) dX12_isOf_3 (by decide +kernel) ?_
  refine wp_iand dX12_isOf_4 ?_
  rw [isOf_v hs (by omega)]
  refine wp_iconst (v := (nI 1)) dX12_isOf_5 (by decide +kernel) ?_
  refine wp_icmp_neN dX12_isOf_6 rfl rfl ⟨by have := Nat.mod_lt (s / 2 ^ p) (show 0 < 2 by decide); omega, by decide⟩ (fun c1 => ?_) (fun c1 => ?_)
  · refine wp_iconst (v := (nI 0)) dX12_isOf_13 (by decide +kernel) ?_
    refine wp_zreturn dX12_isOf_14 rfl (Or.inl rfl) ?_
    exact hf (by rw [tb_div]; exact decide_eq_false (by assumption))
  · refine wp_iconst (v := (nI 1)) dX12_isOf_9 (by decide +kernel) ?_
    refine wp_goto dX12_isOf_10 ?_
    refine wp_zreturn dX12_isOf_14 rfl (Or.inr rfl) ?_
    exact ht (by rw [tb_div]; exact decide_eq_true (by assumption))
set_option maxRecDepth 20000 in
theorem pX12_many {h : mH} {Q : Option Value → mH → Prop} {s : Nat} (hs : s < 64) (hq : Q (some (.int (nI (pc6 s 16)))) h) : Wp mX12_many 0 0 0 [some (.int (nI s)), none, none] [] h Q := by
  have hloop : ∀  (n : Nat) (k : Nat), (k ≤ 16) → (16 < k + n) → Wp mX12_many 0 0 4 [some (.int (nI s)), some (.int (nI (pc6 s k))), some (.int (nI k))] [] h Q := by
    intro n
    induction n with
    | zero => intros; omega
    | succ n ih =>
      intro k hk hmz
      refine wp_iload_n dX12_many_4 rfl rfl ?_
      refine wp_bipush (v := (nI 16)) dX12_many_5 (by decide +kernel) ?_
      refine wp_icmp_geN dX12_many_7 rfl rfl ⟨by omega, by omega⟩ (fun c1 => ?_) (fun c1 => ?_)
      · refine wp_iload_n dX12_many_24 rfl rfl ?_
        refine wp_ireturn dX12_many_25 rfl ?_
        have e9 : k = 16 := by omega
        subst e9
        exact hq
      · refine wp_iload_n dX12_many_10 rfl rfl ?_
        refine wp_iload_n dX12_many_11 rfl rfl ?_
        refine wp_iload_n dX12_many_12 rfl rfl ?_
        refine wp_ishr dX12_many_13 ?_
        refine wp_iconst (v := (nI 1)) dX12_many_14 (by decide +kernel) ?_
        refine wp_iand dX12_many_15 ?_
        rw [isOf_v hs (by omega)]
        refine wp_iadd dX12_many_16 ?_
        refine wp_istore_n (ls1 := [_, some _, _]) dX12_many_17 rfl (by decide) rfl ?_
        refine wp_iinc1 (ls1 := [_, _, some _]) dX12_many_18 rfl (by decide) rfl ?_
        refine wp_goto dX12_many_21 ?_
        rw [nI_add]
        exact ih (k + 1) (by omega) (by omega)
  refine wp_iconst (v := (nI 0)) dX12_many_0 (by decide +kernel) ?_
  refine wp_istore_n (ls1 := [_, some _, _]) dX12_many_1 rfl (by decide) rfl ?_
  refine wp_iconst (v := (nI 0)) dX12_many_2 (by decide +kernel) ?_
  refine wp_istore_n (ls1 := [_, _, some _]) dX12_many_3 rfl (by decide) rfl ?_
  exact hloop 17 0 (by omega) (by omega)
set_option maxRecDepth 20000 in
theorem pX12_firstOf {h : mH} {Q : Option Value → mH → Prop} {s : Nat} (hs : s < 64) (hx : ∃ p, p < 6 ∧ s.testBit p = true) (hq : ∀ p, p < 6 → s.testBit p = true → (∀ j, j < p → s.testBit j = false) → Q (some (.int (nI p))) h) : Wp mX12_firstOf 1 21 0 [some (.int (nI s)), none] [] h Q := by
  have hloop : ∀  (n : Nat) (k : Nat), (∀ j, j < k → s.testBit j = false) → (6 < k + n) → Wp mX12_firstOf 1 21 2 [some (.int (nI s)), some (.int (nI k))] [] h Q := by
    intro n
    induction n with
    | zero => intros; rename_i h9 hm9; obtain ⟨p, hp, e⟩ := hx; have h8 := h9 p (by omega); rw [e] at h8; exact absurd h8 (by decide)
    | succ n ih =>
      intro k hbef hmz
      have hk16 : k < 16 := by
        obtain ⟨p, hp, e⟩ := hx
        rcases Nat.lt_or_ge k 6 with z | z
        · omega
        · have h9 := hbef p (by omega)
          rw [e] at h9
          exact absurd h9 (by decide)
      refine wp_iload_n dX12_firstOf_2 rfl rfl ?_
      refine wp_iload_n dX12_firstOf_3 rfl rfl ?_
      refine wp_cS2 0 0 [some _, some _] dX12_firstOf_4 tX12_isOf sX12_isOf lX12_394 ⟨by decide, by decide⟩ (Nat.le_of_ble_eq_true rfl) (Nat.le_of_ble_eq_true rfl) rfl ?_
      refine pX12_isOf hs hk16 (fun o1 => ?_) (fun o1 => ?_)
      · intro _ _
        refine wp_if_ne dX12_firstOf_7 (fun _ => ?_) (fun q => absurd q (by decide +kernel))
        refine wp_iload_n dX12_firstOf_16 rfl rfl ?_
        refine wp_ireturn dX12_firstOf_17 rfl ?_
        refine hq k (Nat.lt_of_not_le (fun z => ?_)) o1 hbef
        have h9 := Nat.testBit_lt_two_pow (x := s) (i := k) (Nat.lt_of_lt_of_le hs (Nat.pow_le_pow_right (n := 2) (by decide) z))
        rw [o1] at h9
        exact absurd h9 (by decide)
      · intro _ _
        refine wp_if_ne dX12_firstOf_7 (fun q => absurd q (by decide +kernel)) (fun _ => ?_)
        refine wp_iinc1 (ls1 := [_, some _]) dX12_firstOf_10 rfl (by decide) rfl ?_
        refine wp_goto dX12_firstOf_13 ?_
        refine ih (k + 1) ?_ (by omega)
        intro j hj
        by_cases e : j = k
        · subst e; assumption
        · exact hbef j (by omega)
  refine wp_iconst (v := (nI 0)) dX12_firstOf_0 (by decide +kernel) ?_
  refine wp_istore_n (ls1 := [_, some _]) dX12_firstOf_1 rfl (by decide) rfl ?_
  exact hloop 7 0 (fun j hj => by omega) (by omega)
/-- a token as its kind (0), as itself: its code -/
def asC (r : Nat → Int64) (p k how : Nat) : Nat := if how = 0 then kd (rW r p k) + 1 else (uqA r).idxOf (rW r p k) + 4
theorem as0 {r : Nat → Int64} {p k how : Nat} (h : how = 0) : itm (asC r p k how) = nI (kd (rW r p k)) := by
  subst h
  rfl
theorem as1 {r : Nat → Int64} {p k how : Nat} (h : 0 < how) : itm (asC r p k how) = nI 3 + nI ((uqA r).idxOf (rW r p k)) := by
  have e : asC r p k how = (uqA r).idxOf (rW r p k) + 4 := if_neg (by omega)
  rw [e, nI_add]
  unfold itm
  rw [if_neg (by omega)]
  congr 1
  omega
set_option maxRecDepth 20000 in
theorem pX12_asItem {h : mH} {Q : Option Value → mH → Prop} {r : Nat → Int64} {F : Nat} {pa my : Nat → Int32} {p k how : Nat} (hc : mC h r F pa my) (hd : sOK r F pa my) (nx : numX r h) (hp : p < rP r) (hk : k < rT r p) (hh : how < 2147483648) (hq : Q (some (.int (itm (asC r p k how)))) h) : Wp mX12_asItem 0 0 0 [some (.ref 153), some (.int (nI p)), some (.int (nI k)), some (.int (nI how))] [] h Q := by
  have hF4 := hd.f4
  have hP6 := hd.w.1.2
  refine wp_iload_n dX12_asItem_0 rfl rfl ?_
  refine wp_if_neN dX12_asItem_1 rfl (by omega) (fun c1 => ?_) (fun c1 => ?_)
  · refine wp_iconst (v := (nI 3)) dX12_asItem_18 (by decide +kernel) ?_
    refine wp_aload_n dX12_asItem_19 rfl rfl ?_
    refine wp_getR dX12_asItem_20 lX12_49 rfl (mO hc.1) (mR_numbers hc.1) ?_
    refine wp_bipush (v := (nI 40)) dX12_asItem_23 (by decide +kernel) ?_
    refine wp_iload_n dX12_asItem_25 rfl rfl ?_
    refine wp_imul dX12_asItem_26 ?_
    refine wp_iload_n dX12_asItem_27 rfl rfl ?_
    refine wp_iadd dX12_asItem_28 ?_
    refine wp_ialdV dX12_asItem_29 (mA_numbers hc.1) (isN_add (isN_mul rfl rfl) rfl) ⟨by have := (hd.w.2.1 p (by omega)).2; omega, by decide⟩ (nx.2.2 p k hp hk).2.1 ?_
    refine wp_iadd dX12_asItem_30 ?_
    refine wp_ireturn dX12_asItem_31 rfl ?_
    first | (rw [as0 (by assumption)] at hq; exact hq) | (rw [as1 (by assumption)] at hq; exact hq)
  · refine wp_aload_n dX12_asItem_4 rfl rfl ?_
    refine wp_getR dX12_asItem_5 lX12_52 rfl (mO hc.1) (mR_kinds hc.1) ?_
    refine wp_bipush (v := (nI 40)) dX12_asItem_8 (by decide +kernel) ?_
    refine wp_iload_n dX12_asItem_10 rfl rfl ?_
    refine wp_imul dX12_asItem_11 ?_
    refine wp_iload_n dX12_asItem_12 rfl rfl ?_
    refine wp_iadd dX12_asItem_13 ?_
    refine wp_ialdV dX12_asItem_14 (mA_kinds hc.1) (isN_add (isN_mul rfl rfl) rfl) ⟨by have := (hd.w.2.1 p (by omega)).2; omega, by decide⟩ (nx.2.2 p k hp hk).2.2 ?_
    refine wp_goto dX12_asItem_15 ?_
    refine wp_ireturn dX12_asItem_31 rfl ?_
    first | (rw [as0 (by assumption)] at hq; exact hq) | (rw [as1 (by assumption)] at hq; exact hq)
