/-! ===== what learnt rules cut ===== -/
theorem cutsOK.fr {h h1 : mH} {l : List (Nat × Nat)} {F A : List Nat} (q : cutsOK h l) (g : mFr (mP F A) h h1) (q1 : 35 ∉ F) (q2 : 153 ∉ A ∧ 169 ∉ A ∧ 170 ∉ A) : cutsOK h1 l := by
  refine ⟨(g.fI 35 q1 q2.1).trans q.1, q.2.1, ?_⟩
  rw [g.Ir (by decide) q2.2.1, g.Ir (by decide) q2.2.2]
  exact q.2.2
def cbL (r : Nat → Int64) (my : Nat → Int32) (f : Nat) (P : Int32 → Nat → Bool) (a b k : Nat) : List (Nat × Nat) := cutL P b (lrI r f k 0) (lrI r f k 1) (lrI r f k 2) (lrI r f k 3) (mzN (my f)) a
def cbX (r : Nat → Int64) (my : Nat → Int32) (f : Nat) (P : Int32 → Nat → Bool) (a b : Nat) : Option (Nat × List (Nat × Nat)) := (fst1 (fun k => decide (cbL r my f P a b k ≠ [])) 0 (lrN r f)).map (fun k => (k, cbL r my f P a b k))
def cuL (x : Option (Nat × List (Nat × Nat))) : List (Nat × Nat) := match x with
  | some y => y.2
  | none => []
def cuB (x : Option (Nat × List (Nat × Nat))) : Int32 := match x with
  | some y => nI y.1
  | none => -1
theorem fst1_of {P : Nat → Bool} {n p : Nat} (hp : p < n) (e : P p = true) (hb : ∀ j, j < p → P j = false) : fst1 P 0 n = some p := by
  cases h : fst1 P 0 n with
  | none => exact absurd e (by rw [fI_none _ _ h p (by omega) (by omega)]; decide)
  | some q =>
    have h2 := fst1_some h
    rcases Nat.lt_trichotomy p q with z | z | z
    · exact absurd (h2.2.2.2 p (by omega) z) (by rw [e]; decide)
    · rw [z]
    · exact absurd h2.2.2.1 (by rw [hb q z]; decide)
theorem fst1_no {P : Nat → Bool} {n : Nat} (hb : ∀ j, j < n → P j = false) : fst1 P 0 n = none := by
  cases h : fst1 P 0 n with
  | none => rfl
  | some q =>
    have h2 := fst1_some h
    exact absurd h2.2.2.1 (by rw [hb q h2.2.1]; decide)
theorem cbX_of {r : Nat → Int64} {my : Nat → Int32} {f a b k : Nat} {P : Int32 → Nat → Bool} (hk : k < lrN r f) (h : cbL r my f P a b k ≠ []) (hb : ∀ j, j < k → cbL r my f P a b j = []) : cbX r my f P a b = some (k, cbL r my f P a b k) := by
  have e := fst1_of (P := fun j => decide (cbL r my f P a b j ≠ [])) hk (decide_eq_true h) (fun j hj => decide_eq_false (fun z => z (hb j hj)))
  unfold cbX
  rw [e]
  rfl
theorem cbX_no {r : Nat → Int64} {my : Nat → Int32} {f a b : Nat} {P : Int32 → Nat → Bool} (hb : ∀ j, j < lrN r f → cbL r my f P a b j = []) : cbX r my f P a b = none := by
  have e := fst1_no (P := fun j => decide (cbL r my f P a b j ≠ [])) (fun j hj => decide_eq_false (fun z => z (hb j hj)))
  unfold cbX
  rw [e]
  rfl
theorem cbX_some {r : Nat → Int64} {my : Nat → Int32} {f a b : Nat} {P : Int32 → Nat → Bool} {x : Nat × List (Nat × Nat)} (h : cbX r my f P a b = some x) : x.1 < lrN r f ∧ x.2 = cbL r my f P a b x.1 ∧ x.2 ≠ [] := by
  unfold cbX at h
  cases e : fst1 (fun k => decide (cbL r my f P a b k ≠ [])) 0 (lrN r f) with
  | none =>
    rw [e] at h
    cases h
  | some k =>
    rw [e] at h
    cases h
    have h2 := fst1_some e
    exact ⟨h2.2.1, rfl, of_decide_eq_true h2.2.2.1⟩
def hd2 (l : List (Nat × Nat)) : Nat × Nat := l.getD 0 (0, 0)
/-- a field of a row of tokens, cut by its parents from the first on -/
def crF (r : Nat → Int64) (pa my : Nat → Int32) (P : Int32 → Nat → Bool) (len : Nat) : Nat → Nat → Option (Nat × List (Nat × Nat))
  | 0, _ => none
  | n + 1, f => if pa f = -1 then cbX r my f P 0 len else match crF r pa my P len n (nOfI (pa f)) with
    | none => none
    | some x => cbX r my f P (hd2 x.2).1 (hd2 x.2).2
theorem crF_f {r : Nat → Int64} {F : Nat} {pa my : Nat → Int32} {P : Int32 → Nat → Bool} {len : Nat} (hd : sOK r F pa my) : ∀ n m f, f < F → f < n → f < m → crF r pa my P len n f = crF r pa my P len m f
  | 0, m, f, _, h, _ => by omega
  | n + 1, 0, f, _, _, h => by omega
  | n + 1, m + 1, f, hf, h1, h2 => by
    show (if _ then _ else _) = if _ then _ else _
    by_cases c : pa f = -1
    · rw [if_pos c, if_pos c]
    · rw [if_neg c, if_neg c]
      rcases hd.par f hf with e | ⟨g, hg, e, _⟩
      · exact absurd e c
      · have hF4 := hd.f4
        rw [e, nOfI_nI (by omega), crF_f hd n m g (by omega) (by omega) (by omega)]
def crX (r : Nat → Int64) (pa my : Nat → Int32) (P : Int32 → Nat → Bool) (len f : Nat) : Option (Nat × List (Nat × Nat)) := crF r pa my P len (f + 1) f
theorem crX_top {r : Nat → Int64} {pa my : Nat → Int32} {P : Int32 → Nat → Bool} {len f : Nat} (h : pa f = -1) : crX r pa my P len f = cbX r my f P 0 len := if_pos h
theorem crX_par {r : Nat → Int64} {F : Nat} {pa my : Nat → Int32} {P : Int32 → Nat → Bool} {len f g : Nat} (hd : sOK r F pa my) (hf : f < F) (hg : g < f) (h : pa f = nI g) : crX r pa my P len f = match crX r pa my P len g with
    | none => none
    | some x => cbX r my f P (hd2 x.2).1 (hd2 x.2).2 := by
  have hF4 := hd.f4
  show (if _ then _ else _) = _
  rw [if_neg (by rw [h]; exact nI_ne_m1 (by omega)), h, nOfI_nI (by omega), crF_f hd f (g + 1) g (by omega) hg (by omega)]
  rfl
theorem hd2_ok {r : Nat → Int64} {my : Nat → Int32} {f a b : Nat} {P : Int32 → Nat → Bool} {x : Nat × List (Nat × Nat)} (hab : a ≤ b) (h : cbX r my f P a b = some x) : (∀ q ∈ x.2, a ≤ q.1 ∧ q.1 < q.2 ∧ q.2 ≤ b) ∧ a ≤ (hd2 x.2).1 ∧ (hd2 x.2).1 < (hd2 x.2).2 ∧ (hd2 x.2).2 ≤ b := by
  have h1 := cbX_some h
  have h2 := (cutL_ok (P := P) (b := b) (far := lrI r f x.1 0) (near := lrI r f x.1 1) (sec := lrI r f x.1 2) (stop := lrI r f x.1 3) (mzN (my f)) a hab).2
  have h3 : ∀ q ∈ x.2, a ≤ q.1 ∧ q.1 < q.2 ∧ q.2 ≤ b := by
    rw [h1.2.1]
    exact h2
  refine ⟨h3, ?_⟩
  cases e : x.2 with
  | nil => exact absurd e h1.2.2
  | cons q l => exact h3 q (by rw [e]; exact List.mem_cons_self)
theorem crX_ok {r : Nat → Int64} {F : Nat} {pa my : Nat → Int32} {P : Int32 → Nat → Bool} {len : Nat} (hd : sOK r F pa my) : ∀ n f, f < F → f < n → ∀ x, crX r pa my P len f = some x → (∀ q ∈ x.2, q.1 < q.2 ∧ q.2 ≤ len) ∧ x.2 ≠ [] ∧ (hd2 x.2).1 < (hd2 x.2).2 ∧ (hd2 x.2).2 ≤ len
  | 0, f, _, h, _, _ => by omega
  | n + 1, f, hf, h1, x, hx => by
    rcases hd.par f hf with e | ⟨g, hg, e, _⟩
    · rw [crX_top e] at hx
      have h2 := hd2_ok (Nat.zero_le _) hx
      exact ⟨fun q hq => (h2.1 q hq).2, (cbX_some hx).2.2, h2.2.2⟩
    · rw [crX_par hd hf hg e] at hx
      cases c : crX r pa my P len g with
      | none =>
        rw [c] at hx
        cases hx
      | some y =>
        rw [c] at hx
        have h3 := crX_ok hd n g (by omega) (by omega) y c
        have h2 := hd2_ok (Nat.le_of_lt h3.2.2.1) hx
        refine ⟨fun q hq => ⟨(h2.1 q hq).2.1, ?_⟩, (cbX_some hx).2.2, h2.2.2.1, ?_⟩
        · have := (h2.1 q hq).2.2
          omega
        · have := h2.2.2.2
          omega
theorem cuL_nil (x : Option (Nat × List (Nat × Nat))) (h : ∀ y, x = some y → y.2 ≠ []) : cuL x = [] ↔ x = none := by
  cases x with
  | none => exact ⟨fun _ => rfl, fun _ => rfl⟩
  | some y => exact ⟨fun z => absurd z (h y rfl), fun z => by cases z⟩
set_option maxRecDepth 20000 in
theorem pX12_cutsBy {h : mH} {Q : Option Value → mH → Prop} {r : Nat → Int64} {F : Nat} {pa my : Nat → Int32} {f p a b : Nat} {but : Int32} (hc : mC h r F pa my) (hd : sOK r F pa my) (hf : f < F) (hp : p < rP r) (rx : rowX r h p but) (hab : a ≤ b ∧ b ≤ (rowL but (rT r p)).length) (hq : ∀ h', mFr (mP [35, 50] [169, 170]) h h' → cutsOK h' (cuL (cbX r my f (pmR r p but) a b)) → hI h' 153 50 = cuB (cbX r my f (pmR r p but) a b) → Q none h') : Wp mX12_cutsBy 5 127 0 [some (.ref 153), some (.int (nI f)), some (.int (nI a)), some (.int (nI b)), none] [] h Q := by
  have hF4 := hd.f4
  have hP6 := hd.w.1.2
  have hln := (hd.ln f (by omega)).2
  have hloop : ∀  (t9 : Nat) (k : Nat) (h1 : mH), (k ≤ lrN r f) → (mC h1 r F pa my) → (rowX r h1 p but) → (mFr (mP [35, 50] [169, 170]) h h1) → (cutsOK h1 []) → (hI h1 153 50 = -1) → (∀ j, j < k → cbL r my f (pmR r p but) a b j = []) → (lrN r f < k + t9) → Wp mX12_cutsBy 5 127 13 [some (.ref 153), some (.int (nI f)), some (.int (nI a)), some (.int (nI b)), some (.int (nI k))] [] h1 Q := by
    intro t9
    induction t9 with
    | zero => intros; omega
    | succ t9 ih =>
      intro k h1 hk hc1 rx1 hf1 k1 e50 hno hmz
      refine wp_iload dX12_cutsBy_13 rfl ?_
      refine wp_aload_n dX12_cutsBy_15 rfl rfl ?_
      refine wp_iload_n dX12_cutsBy_16 rfl rfl ?_
      refine wp_cV1 1 20 [some _, some _] dX12_cutsBy_17 tX12_learntRules rfl (by decide) nX12_learntRules vX12_learntRules lX12_463 ⟨by decide, by decide⟩ (Nat.le_of_ble_eq_true rfl) (mO hc1.1) (Nat.le_of_ble_eq_true rfl) rfl ?_
      refine pX12_learntRules' hc1 hd (by omega) ?_
      intro _ _
      refine wp_icmp_geN dX12_cutsBy_20 rfl rfl ⟨by omega, by omega⟩ (fun c1 => ?_) (fun c1 => ?_)
      · refine wp_vreturn dX12_cutsBy_97 rfl ?_
        have hx := cbX_no (r := r) (my := my) (f := f) (P := (pmR r p but)) (a := a) (b := b) (fun j hj => hno j (by omega))
        exact hq _ (hf1.up (by decide) (by decide)) (by rw [hx]; exact k1) (by rw [hx]; exact e50)
      · refine wp_aload_n dX12_cutsBy_23 rfl rfl ?_
        refine wp_getIV dX12_cutsBy_24 lX12_337 rfl (mO hc1.1) k1.1 ?_
        refine wp_if_ne dX12_cutsBy_27 (fun q => absurd q (by decide +kernel)) (fun _ => ?_)
        refine wp_aload_n dX12_cutsBy_30 rfl rfl ?_
        refine wp_aload_n dX12_cutsBy_31 rfl rfl ?_
        refine wp_getR dX12_cutsBy_32 lX12_40 rfl (mO hc1.1) (mR_isMany hc1.1) ?_
        refine wp_iload_n dX12_cutsBy_35 rfl rfl ?_
        refine wp_zaldV dX12_cutsBy_36 (mA_isMany hc1.1) rfl ⟨by omega, by decide⟩ (congrFun hc1.2.2.2.2 _) ?_
        refine wp_iload_n dX12_cutsBy_37 rfl rfl ?_
        refine wp_iload_n dX12_cutsBy_38 rfl rfl ?_
        refine wp_aload_n dX12_cutsBy_39 rfl rfl ?_
        refine wp_iload_n dX12_cutsBy_40 rfl rfl ?_
        refine wp_iload dX12_cutsBy_41 rfl ?_
        refine wp_iconst (v := (nI 0)) dX12_cutsBy_43 (by decide +kernel) ?_
        refine wp_cV3 1 20 [some _, some _, some _, some _] dX12_cutsBy_44 tX12_learntItem rfl (by decide) nX12_learntItem vX12_learntItem lX12_472 ⟨by decide, by decide⟩ (Nat.le_of_ble_eq_true rfl) (mO hc1.1) (Nat.le_of_ble_eq_true rfl) rfl ?_
        refine pX12_learntItem' hc1 hd (by omega) (by omega) (by omega) ?_
        intro _ _
        refine wp_aload_n dX12_cutsBy_47 rfl rfl ?_
        refine wp_iload_n dX12_cutsBy_48 rfl rfl ?_
        refine wp_iload dX12_cutsBy_49 rfl ?_
        refine wp_iconst (v := (nI 1)) dX12_cutsBy_51 (by decide +kernel) ?_
        refine wp_cV3 1 20 [some _, some _, some _, some _] dX12_cutsBy_52 tX12_learntItem rfl (by decide) nX12_learntItem vX12_learntItem lX12_472 ⟨by decide, by decide⟩ (Nat.le_of_ble_eq_true rfl) (mO hc1.1) (Nat.le_of_ble_eq_true rfl) rfl ?_
        refine pX12_learntItem' hc1 hd (by omega) (by omega) (by omega) ?_
        intro _ _
        refine wp_aload_n dX12_cutsBy_55 rfl rfl ?_
        refine wp_iload_n dX12_cutsBy_56 rfl rfl ?_
        refine wp_iload dX12_cutsBy_57 rfl ?_
        refine wp_iconst (v := (nI 2)) dX12_cutsBy_59 (by decide +kernel) ?_
        refine wp_cV3 1 20 [some _, some _, some _, some _] dX12_cutsBy_60 tX12_learntItem rfl (by decide) nX12_learntItem vX12_learntItem lX12_472 ⟨by decide, by decide⟩ (Nat.le_of_ble_eq_true rfl) (mO hc1.1) (Nat.le_of_ble_eq_true rfl) rfl ?_
        refine pX12_learntItem' hc1 hd (by omega) (by omega) (by omega) ?_
        intro _ _
        refine wp_aload_n dX12_cutsBy_63 rfl rfl ?_
        refine wp_iload_n dX12_cutsBy_64 rfl rfl ?_
        refine wp_iload dX12_cutsBy_65 rfl ?_
        refine wp_iconst (v := (nI 3)) dX12_cutsBy_67 (by decide +kernel) ?_
        refine wp_cV3 1 20 [some _, some _, some _, some _] dX12_cutsBy_68 tX12_learntItem rfl (by decide) nX12_learntItem vX12_learntItem lX12_472 ⟨by decide, by decide⟩ (Nat.le_of_ble_eq_true rfl) (mO hc1.1) (Nat.le_of_ble_eq_true rfl) rfl ?_
        refine pX12_learntItem' hc1 hd (by omega) (by omega) (by omega) ?_
        intro _ _
        refine wp_cV7 4 99 [some _, some _, some _, some _, some _, some _, some _, some _, none] dX12_cutsBy_71 tX12_cutsRegion rfl (by decide) nX12_cutsRegion vX12_cutsRegion lX12_353 ⟨by decide, by decide⟩ (Nat.le_of_ble_eq_true rfl) (mO hc1.1) (Nat.le_of_ble_eq_true rfl) rfl ?_
        refine pX12_cutsRegion' hc1 hd (hd.my f (by omega)) hp rx1 hab (fun hh1 f1 k1 => ?_)
        intro _ _
        have mc1 := hc1.fr f1 (by decide) (by decide) (by decide) (by decide) (by decide)
        have rx1 := rx1.fr f1 (by decide) (by decide)
        have efI50_1 := (f1.fI 50 (by decide) (by decide)).trans e50
        refine wp_aload_n dX12_cutsBy_74 rfl rfl ?_
        refine wp_aload_n dX12_cutsBy_75 rfl rfl ?_
        refine wp_getIV dX12_cutsBy_76 lX12_337 rfl (mO mc1.1) k1.1 ?_
        refine wp_if_leN dX12_cutsBy_79 rfl (by have := k1.2.1; omega) (fun c3 => ?_) (fun c3 => ?_)
        · refine wp_iconst (v := (-1)) dX12_cutsBy_87 (by decide +kernel) ?_
          refine wp_putI dX12_cutsBy_88 lX12_475 rfl (Or.inl rfl) (mO mc1.1) rfl rfl ?_
          refine sealI (fun hh2 f2 e2 => ?_)
          have mc2 := mc1.fr f2 (by decide) (by decide) (by decide) (by decide) (by decide)
          have rx2 := rx1.fr f2 (by decide) (by decide)
          have k2 := k1.fr f2 (by decide) (by decide)
          refine wp_iinc1 (ls1 := [_, _, _, _, some _]) dX12_cutsBy_91 rfl (by decide) rfl ?_
          refine wp_goto dX12_cutsBy_94 ?_
          have em : cbL r my f (pmR r p but) a b k = [] := List.length_eq_zero_iff.mp (by assumption)
          refine ih (k + 1) _ (by omega) mc2 rx2 (((hf1.up (by decide) (by decide)).tr (f1.up (by decide) (by decide))).tr (f2.up (by decide) (by decide))) (by rw [← em]; exact k2) e2 ?_ (by omega)
          intro j hj
          by_cases e9 : j = k
          · rw [e9]; exact em
          · exact hno j (by omega)
        · refine wp_iload dX12_cutsBy_82 rfl ?_
          refine wp_goto dX12_cutsBy_84 ?_
          refine wp_putI dX12_cutsBy_88 lX12_475 rfl (Or.inl rfl) (mO mc1.1) rfl rfl ?_
          refine sealI (fun hh3 f3 e3 => ?_)
          have mc3 := mc1.fr f3 (by decide) (by decide) (by decide) (by decide) (by decide)
          have rx3 := rx1.fr f3 (by decide) (by decide)
          have k3 := k1.fr f3 (by decide) (by decide)
          refine wp_iinc1 (ls1 := [_, _, _, _, some _]) dX12_cutsBy_91 rfl (by decide) rfl ?_
          refine wp_goto dX12_cutsBy_94 ?_
          refine wp_iload dX12_cutsBy_13 rfl ?_
          refine wp_aload_n dX12_cutsBy_15 rfl rfl ?_
          refine wp_iload_n dX12_cutsBy_16 rfl rfl ?_
          refine wp_cV1 1 20 [some _, some _] dX12_cutsBy_17 tX12_learntRules rfl (by decide) nX12_learntRules vX12_learntRules lX12_463 ⟨by decide, by decide⟩ (Nat.le_of_ble_eq_true rfl) (mO mc3.1) (Nat.le_of_ble_eq_true rfl) rfl ?_
          refine pX12_learntRules' mc3 hd (by omega) ?_
          intro _ _
          refine wp_icmp_geN dX12_cutsBy_20 rfl rfl ⟨by omega, by omega⟩ (fun c4 => ?_) (fun c4 => ?_)
          · refine wp_vreturn dX12_cutsBy_97 rfl ?_
            have hx := cbX_of (r := r) (my := my) (f := f) (P := (pmR r p but)) (a := a) (b := b) (k := k) (by omega) (fun z9 => by have h9 : 0 < (cbL r my f (pmR r p but) a b k).length := (by assumption); rw [z9] at h9; exact absurd h9 (by decide)) hno
            exact hq _ (((hf1.up (by decide) (by decide)).tr (f1.up (by decide) (by decide))).tr (f3.up (by decide) (by decide))) (by rw [hx]; exact k3) (by rw [hx]; exact e3)
          · refine wp_aload_n dX12_cutsBy_23 rfl rfl ?_
            refine wp_getIV dX12_cutsBy_24 lX12_337 rfl (mO mc3.1) k3.1 ?_
            refine wp_if_neN dX12_cutsBy_27 rfl (by have := k3.2.1; omega) (fun _ => ?_) (fun q9 => absurd q9 (by omega))
            refine wp_vreturn dX12_cutsBy_97 rfl ?_
            have hx := cbX_of (r := r) (my := my) (f := f) (P := (pmR r p but)) (a := a) (b := b) (k := k) (by omega) (fun z9 => by have h9 : 0 < (cbL r my f (pmR r p but) a b k).length := (by assumption); rw [z9] at h9; exact absurd h9 (by decide)) hno
            exact hq _ (((hf1.up (by decide) (by decide)).tr (f1.up (by decide) (by decide))).tr (f3.up (by decide) (by decide))) (by rw [hx]; exact k3) (by rw [hx]; exact e3)
  refine wp_aload_n dX12_cutsBy_0 rfl rfl ?_
  refine wp_iconst (v := (nI 0)) dX12_cutsBy_1 (by decide +kernel) ?_
  refine wp_putI dX12_cutsBy_2 lX12_337 rfl (Or.inl rfl) (mO hc.1) rfl rfl ?_
  refine sealI (fun hh1 f1 e1 => ?_)
  have mc1 := hc.fr f1 (by decide) (by decide) (by decide) (by decide) (by decide)
  have rx1 := rx.fr f1 (by decide) (by decide)
  refine wp_aload_n dX12_cutsBy_5 rfl rfl ?_
  refine wp_iconst (v := (-1)) dX12_cutsBy_6 (by decide +kernel) ?_
  refine wp_putI dX12_cutsBy_7 lX12_475 rfl (Or.inl rfl) (mO mc1.1) rfl rfl ?_
  refine sealI (fun hh2 f2 e2 => ?_)
  have mc2 := mc1.fr f2 (by decide) (by decide) (by decide) (by decide) (by decide)
  have rx2 := rx1.fr f2 (by decide) (by decide)
  have efI35_2 := (f2.fI 35 (by decide) (by decide)).trans e1
  refine wp_iconst (v := (nI 0)) dX12_cutsBy_10 (by decide +kernel) ?_
  refine wp_istore (ls1 := [_, _, _, _, some _]) dX12_cutsBy_11 (by decide) rfl ?_
  exact hloop (lrN r f + 1) 0 _ (by omega) mc2 rx2 ((f1.up (by decide) (by decide)).tr (f2.up (by decide) (by decide))) ⟨efI35_2, by decide, fun i hi => absurd hi (by show ¬ i < 0; omega)⟩ e2 (fun j hj => by omega) (by omega)
