/-! ===== shapes ===== -/
/-- the parts of a field, page by page -/
def ptI (r : Nat → Int64) (f p i : Nat) : List (Nat × Nat × Nat) := (List.range i).map (fun j => (p, rA r f p j, rB r f p j))
def ptU (r : Nat → Int64) (f : Nat) : Nat → List (Nat × Nat × Nat)
  | 0 => []
  | p + 1 => ptU r f p ++ ptI r f p (rM r f p)
def shF (r : Nat → Int64) (a : Nat × Nat × Nat × Nat) (x : Nat × Nat × Nat) : Nat × Nat × Nat × Nat := (min a.1 (x.2.2 - x.2.1), max a.2.1 (x.2.2 - x.2.1), a.2.2.1 ||| 2 ^ kd (rW r x.1 x.2.1), a.2.2.2 ||| 2 ^ kd (rW r x.1 (x.2.2 - 1)))
def shA (r : Nat → Int64) (f p i : Nat) : Nat × Nat × Nat × Nat := (ptU r f p ++ ptI r f p i).foldl (shF r) (41, 0, 0, 0)
/-- the kind at a place, as a code: 0 none so far, 4 several -/
def kaF (r : Nat → Int64) (k : Nat) (c : Nat) (x : Nat × Nat × Nat) : Nat := if c = 0 ∨ c = kd (rW r x.1 (x.2.1 + k)) + 1 then kd (rW r x.1 (x.2.1 + k)) + 1 else 4
def kaA (r : Nat → Int64) (f k p i : Nat) : Nat := (ptU r f p ++ ptI r f p i).foldl (kaF r k) 0
theorem kaF_p {r : Nat → Int64} {k c p a b : Nat} (h : c = 0 ∨ c = kd (rW r p (a + k)) + 1) : kaF r k c (p, a, b) = kd (rW r p (a + k)) + 1 := if_pos h
theorem kaF_n {r : Nat → Int64} {k c p a b : Nat} (h : ¬ (c = 0 ∨ c = kd (rW r p (a + k)) + 1)) : kaF r k c (p, a, b) = 4 := if_neg h
theorem ptI_s (r : Nat → Int64) (f p i : Nat) : ptI r f p (i + 1) = ptI r f p i ++ [(p, rA r f p i, rB r f p i)] := by
  unfold ptI
  rw [List.range_succ, List.map_append]
  rfl
theorem fo_s {β : Type} {r : Nat → Int64} {f p i : Nat} {g : β → Nat × Nat × Nat → β} {a : β} : (ptU r f p ++ ptI r f p (i + 1)).foldl g a = g ((ptU r f p ++ ptI r f p i).foldl g a) (p, rA r f p i, rB r f p i) := by
  rw [ptI_s, ← List.append_assoc, List.foldl_append]
  rfl
theorem fo_p {β : Type} {r : Nat → Int64} {f p : Nat} {g : β → Nat × Nat × Nat → β} {a : β} : (ptU r f (p + 1) ++ ptI r f (p + 1) 0).foldl g a = (ptU r f p ++ ptI r f p (rM r f p)).foldl g a := by
  show ((ptU r f p ++ ptI r f p (rM r f p)) ++ []).foldl g a = _
  rw [List.append_nil]
theorem pt_mem {r : Nat → Int64} {f : Nat} {x : Nat × Nat × Nat} : ∀ p, x ∈ ptU r f p ↔ ∃ q i, q < p ∧ i < rM r f q ∧ x = (q, rA r f q i, rB r f q i)
  | 0 => by
    constructor
    · intro h
      cases h
    · rintro ⟨q, i, h, _⟩
      omega
  | p + 1 => by
    show x ∈ ptU r f p ++ ptI r f p (rM r f p) ↔ _
    rw [List.mem_append, pt_mem p]
    unfold ptI
    rw [List.mem_map]
    constructor
    · rintro (⟨q, i, h1, h2, h3⟩ | ⟨i, h1, h2⟩)
      · exact ⟨q, i, by omega, h2, h3⟩
      · exact ⟨p, i, by omega, List.mem_range.mp h1, h2.symm⟩
    · rintro ⟨q, i, h1, h2, h3⟩
      by_cases e : q = p
      · subst e
        exact Or.inr ⟨i, List.mem_range.mpr h2, h3.symm⟩
      · exact Or.inl ⟨q, i, by omega, h2, h3⟩
theorem shA_bd {r : Nat → Int64} : ∀ (l : List (Nat × Nat × Nat)) a, a.1 ≤ 41 → a.2.1 ≤ 41 → a.2.2.1 < 8 → a.2.2.2 < 8 → (∀ x ∈ l, x.2.2 - x.2.1 ≤ 41) → (l.foldl (shF r) a).1 ≤ 41 ∧ (l.foldl (shF r) a).2.1 ≤ 41 ∧ (l.foldl (shF r) a).2.2.1 < 8 ∧ (l.foldl (shF r) a).2.2.2 < 8
  | [], a, h1, h2, h3, h4, _ => ⟨h1, h2, h3, h4⟩
  | x :: l, a, h1, h2, h3, h4, h5 => by
    refine shA_bd l (shF r a x) ?_ ?_ ?_ ?_ (fun y hy => h5 y (List.mem_cons_of_mem _ hy))
    · show min _ _ ≤ 41
      omega
    · have := h5 x List.mem_cons_self
      show max _ _ ≤ 41
      omega
    · exact Nat.or_lt_two_pow (n := 3) h3 (Nat.pow_lt_pow_right (a := 2) (n := 3) (by decide) (kd_lt _))
    · exact Nat.or_lt_two_pow (n := 3) h4 (Nat.pow_lt_pow_right (a := 2) (n := 3) (by decide) (kd_lt _))
theorem shA_le {r : Nat → Int64} : ∀ (l : List (Nat × Nat × Nat)) a, (l.foldl (shF r) a).1 ≤ a.1 ∧ ∀ x ∈ l, (l.foldl (shF r) a).1 ≤ x.2.2 - x.2.1
  | [], a => ⟨Nat.le_refl _, fun x h => by cases h⟩
  | x :: l, a => by
    have h := shA_le (r := r) l (shF r a x)
    have h1 : (shF r a x).1 = min a.1 (x.2.2 - x.2.1) := rfl
    refine ⟨?_, fun y hy => ?_⟩
    · show (l.foldl (shF r) (shF r a x)).1 ≤ _
      omega
    · show (l.foldl (shF r) (shF r a x)).1 ≤ _
      rcases List.mem_cons.mp hy with e | e
      · subst e
        omega
      · exact h.2 y e
theorem kaA_bd {r : Nat → Int64} {k : Nat} : ∀ (l : List (Nat × Nat × Nat)) c, c ≤ 4 → (l.foldl (kaF r k) c) ≤ 4 ∧ (c ≠ 0 ∨ l ≠ [] → l.foldl (kaF r k) c ≠ 0)
  | [], c, h => ⟨h, fun z => z.elim id (fun w => absurd rfl w)⟩
  | x :: l, c, h => by
    have h1 : kaF r k c x ≤ 4 ∧ kaF r k c x ≠ 0 := by
      have := kd_lt (rW r x.1 (x.2.1 + k))
      unfold kaF
      split <;> omega
    have h2 := kaA_bd (r := r) (k := k) l (kaF r k c x) h1.1
    exact ⟨h2.1, fun _ => h2.2 (Or.inl h1.2)⟩
/-- the numbers of a shape -/
def shV (r : Nat → Int64) (f w : Nat) : Nat := if w = 0 then (shA r f (rP r) 0).1 else if w = 1 then (shA r f (rP r) 0).2.1 else if w = 2 then (shA r f (rP r) 0).2.2.1 else if w = 3 then (shA r f (rP r) 0).2.2.2 else if w - 4 < (shA r f (rP r) 0).1 then kaA r f (w - 4) (rP r) 0 - 1 else 0
theorem pX12_lesserN {h : mH} {Q : Option Value → mH → Prop} {a b : Nat} (ha : a < 2147483648) (hb : b < 2147483648) (hq : Q (some (.int (nI (min a b)))) h) : Wp mX12_lesser 0 0 0 [some (.int (nI a)), some (.int (nI b))] [] h Q := by
  refine pX12_lesser ?_
  by_cases c : a < b
  · rw [if_pos (nI_lt c hb), ← Nat.min_eq_left (Nat.le_of_lt c)]
    exact hq
  · rw [if_neg (nI_nlt (by omega) ha)]
    rw [Nat.min_eq_right (by omega)] at hq
    exact hq
theorem pX12_greaterN {h : mH} {Q : Option Value → mH → Prop} {a b : Nat} (ha : a < 2147483648) (hb : b < 2147483648) (hq : Q (some (.int (nI (max a b)))) h) : Wp mX12_greater 0 0 0 [some (.int (nI a)), some (.int (nI b))] [] h Q := by
  refine pX12_greater ?_
  by_cases c : b < a
  · rw [if_pos (nI_lt c ha)]
    rw [Nat.max_eq_left (by omega)] at hq
    exact hq
  · rw [if_neg (nI_nlt (by omega) hb)]
    rw [Nat.max_eq_right (by omega)] at hq
    exact hq
theorem kaA_s {r : Nat → Int64} {f k p i : Nat} : kaA r f k p (i + 1) = kaF r k (kaA r f k p i) (p, rA r f p i, rB r f p i) := fo_s
set_option maxRecDepth 20000 in
theorem kind_in {h : mH} {Q : Option Value → mH → Prop} {r : Nat → Int64} {F : Nat} {pa my : Nat → Int32} {f k p : Nat} {x6 : Option Value} (hc : mC h r F pa my) (hd : sOK r F pa my) (nx : numX r h) (hf : f < F) (hp : p < rP r) (hpl : ∀ p i, p < rP r → i < rM r f p → k < rB r f p i - rA r f p i) (K9 : ∀ x, Wp mX12_kindAll 2 44 77 [some (.ref 153), some (.int (nI f)), some (.int (nI k)), some (.int (itm (kaA r f k p (rM r f p)))), some (.int (nI p)), some (.int (nI (rM r f p))), x] [] h Q) : Wp mX12_kindAll 2 44 17 [some (.ref 153), some (.int (nI f)), some (.int (nI k)), some (.int (itm (kaA r f k p 0))), some (.int (nI p)), some (.int (nI 0)), x6] [] h Q := by
  have hF4 := hd.f4
  have hP6 := hd.w.1.2
  have hM8 := (hd.w.2.2 f p (by omega) (by omega)).1.2
  have hloop : ∀  (t : Nat) (i : Nat) (x6 : Option Value), (i ≤ rM r f p) → (rM r f p < i + t) → Wp mX12_kindAll 2 44 17 [some (.ref 153), some (.int (nI f)), some (.int (nI k)), some (.int (itm (kaA r f k p i))), some (.int (nI p)), some (.int (nI i)), x6] [] h Q := by
    intro t
    induction t with
    | zero => intros; omega
    | succ t ih =>
      intro i x6 hi hmz
      have hkb := (kaA_bd (r := r) (k := k) (ptU r f p ++ ptI r f p i) 0 (by omega)).1
      have hkb2 : kaA r f k p i ≤ 4 := hkb
      refine wp_iload dX12_kindAll_17 rfl ?_
      refine wp_aload_n dX12_kindAll_19 rfl rfl ?_
      refine wp_iload_n dX12_kindAll_20 rfl rfl ?_
      refine wp_iload dX12_kindAll_21 rfl ?_
      refine wp_cV2 1 21 [some _, some _, some _] dX12_kindAll_23 tX12_partsOf rfl (by decide) nX12_partsOf vX12_partsOf lX12_302 ⟨by decide, by decide⟩ (Nat.le_of_ble_eq_true rfl) (mO hc.1) (Nat.le_of_ble_eq_true rfl) rfl ?_
      refine pX12_partsOf' hc hd (by omega) (by omega) ?_
      intro _ _
      refine wp_icmp_geN dX12_kindAll_26 rfl rfl ⟨by have := kd_lt (rW r p (rA r f p i + k)); omega, by have := kd_lt (rW r p (rA r f p i + k)); omega⟩ (fun c1 => ?_) (fun c1 => ?_)
      · have e9 : i = rM r f p := by omega
        subst e9
        exact K9 _
      · have hso := (hd.so f p i (by omega) (by omega) (by omega)).1
        have hab := (hd.ab f p i (by omega) (by omega) (by omega)).2
        have hT4 := (hd.w.2.1 p (by omega)).2
        have hpl := hpl p i (by omega) (by omega)
        refine wp_aload_n dX12_kindAll_29 rfl rfl ?_
        refine wp_getR dX12_kindAll_30 lX12_52 rfl (mO hc.1) (mR_kinds hc.1) ?_
        refine wp_bipush (v := (nI 40)) dX12_kindAll_33 (by decide +kernel) ?_
        refine wp_iload dX12_kindAll_35 rfl ?_
        refine wp_imul dX12_kindAll_37 ?_
        refine wp_aload_n dX12_kindAll_38 rfl rfl ?_
        refine wp_iload_n dX12_kindAll_39 rfl rfl ?_
        refine wp_iload dX12_kindAll_40 rfl ?_
        refine wp_iload dX12_kindAll_42 rfl ?_
        refine wp_cV3 1 21 [some _, some _, some _, some _] dX12_kindAll_44 tX12_fromOf rfl (by decide) nX12_fromOf vX12_fromOf lX12_309 ⟨by decide, by decide⟩ (Nat.le_of_ble_eq_true rfl) (mO hc.1) (Nat.le_of_ble_eq_true rfl) rfl ?_
        refine pX12_fromOf' hc hd (by omega) (by omega) (by omega) ?_
        intro _ _
        refine wp_iadd dX12_kindAll_47 ?_
        refine wp_iload_n dX12_kindAll_48 rfl rfl ?_
        refine wp_iadd dX12_kindAll_49 ?_
        refine wp_ialdV dX12_kindAll_50 (mA_kinds hc.1) (isN_add (isN_add (isN_mul rfl rfl) rfl) rfl) ⟨by omega, by decide⟩ ((congrArg (hI h 165) (show 40 * p + rA r f p i + k = 40 * p + (rA r f p i + k) by omega)).trans (nx.2.2 p (rA r f p i + k) (by omega) (by omega)).2.2) ?_
        refine wp_istore (ls1 := [_, _, _, _, _, _, some _]) dX12_kindAll_51 (by decide) rfl ?_
        rcases Nat.eq_zero_or_pos (kaA r f k p i) with z0 | z0
        · rw [z0, show itm 0 = -1 from rfl]
          refine wp_iload_n dX12_kindAll_53 rfl rfl ?_
          refine wp_iconst (v := (-1)) dX12_kindAll_54 (by decide +kernel) ?_
          refine wp_icmp_eq dX12_kindAll_55 (fun _ => ?_) (fun q => absurd (by decide +kernel) q)
          refine wp_iload dX12_kindAll_64 rfl ?_
          refine wp_goto dX12_kindAll_66 ?_
          refine wp_istore_n (ls1 := [_, _, _, some _, _, _, _]) dX12_kindAll_70 rfl (by decide) rfl ?_
          refine wp_iinc1 (ls1 := [_, _, _, _, _, some _, _]) dX12_kindAll_71 rfl (by decide) rfl ?_
          refine wp_goto dX12_kindAll_74 ?_
          rw [show nI (kd (rW r p (rA r f p i + k))) = itm (kaA r f k p (i + 1)) from (by rw [kaA_s, kaF_p (by omega), itm_s])]
          exact ih (i + 1) _ (by omega) (by omega)
        · rw [show itm (kaA r f k p i) = nI (kaA r f k p i - 1) from if_neg (by omega)]
          refine wp_iload_n dX12_kindAll_53 rfl rfl ?_
          refine wp_iconst (v := (-1)) dX12_kindAll_54 (by decide +kernel) ?_
          refine wp_icmp_eq dX12_kindAll_55 (fun q => absurd q (nI_ne_m1 (by omega))) (fun _ => ?_)
          refine wp_iload_n dX12_kindAll_58 rfl rfl ?_
          refine wp_iload dX12_kindAll_59 rfl ?_
          refine wp_icmp_neN dX12_kindAll_61 rfl rfl ⟨by have := kd_lt (rW r p (rA r f p i + k)); omega, by have := kd_lt (rW r p (rA r f p i + k)); omega⟩ (fun c4 => ?_) (fun c4 => ?_)
          · refine wp_iconst (v := (nI 3)) dX12_kindAll_69 (by decide +kernel) ?_
            refine wp_istore_n (ls1 := [_, _, _, some _, _, _, _]) dX12_kindAll_70 rfl (by decide) rfl ?_
            refine wp_iinc1 (ls1 := [_, _, _, _, _, some _, _]) dX12_kindAll_71 rfl (by decide) rfl ?_
            refine wp_goto dX12_kindAll_74 ?_
            rw [show nI 3 = itm (kaA r f k p (i + 1)) from (by rw [kaA_s, kaF_n (by omega)]; rfl)]
            exact ih (i + 1) _ (by omega) (by omega)
          · refine wp_iload dX12_kindAll_64 rfl ?_
            refine wp_goto dX12_kindAll_66 ?_
            refine wp_istore_n (ls1 := [_, _, _, some _, _, _, _]) dX12_kindAll_70 rfl (by decide) rfl ?_
            refine wp_iinc1 (ls1 := [_, _, _, _, _, some _, _]) dX12_kindAll_71 rfl (by decide) rfl ?_
            refine wp_goto dX12_kindAll_74 ?_
            rw [show nI (kd (rW r p (rA r f p i + k))) = itm (kaA r f k p (i + 1)) from (by rw [kaA_s, kaF_p (by omega), itm_s])]
            exact ih (i + 1) _ (by omega) (by omega)
  exact hloop (rM r f p + 1) 0 x6 (by omega) (by omega)
set_option maxRecDepth 20000 in
theorem pX12_kindAll {h : mH} {Q : Option Value → mH → Prop} {r : Nat → Int64} {F : Nat} {pa my : Nat → Int32} {f k : Nat} (hc : mC h r F pa my) (hd : sOK r F pa my) (nx : numX r h) (hf : f < F) (hpl : ∀ p i, p < rP r → i < rM r f p → k < rB r f p i - rA r f p i) (hq : Q (some (.int (itm (kaA r f k (rP r) 0)))) h) : Wp mX12_kindAll 2 44 0 [some (.ref 153), some (.int (nI f)), some (.int (nI k)), none, none, none, none] [] h Q := by
  have hF4 := hd.f4
  have hP6 := hd.w.1.2
  have hloop : ∀  (t : Nat) (p : Nat) (x5 : Option Value) (x6 : Option Value), (p ≤ rP r) → (rP r < p + t) → Wp mX12_kindAll 2 44 5 [some (.ref 153), some (.int (nI f)), some (.int (nI k)), some (.int (itm (kaA r f k p 0))), some (.int (nI p)), x5, x6] [] h Q := by
    intro t
    induction t with
    | zero => intros; omega
    | succ t ih =>
      intro p x5 x6 hp hmz
      refine wp_iload dX12_kindAll_5 rfl ?_
      refine wp_aload_n dX12_kindAll_7 rfl rfl ?_
      refine wp_cV0 0 0 [some _] dX12_kindAll_8 tX12_pages rfl (by decide) nX12_pages vX12_pages lX12_255 ⟨by decide, by decide⟩ (Nat.le_of_ble_eq_true rfl) (mO hc.1) (Nat.le_of_ble_eq_true rfl) rfl ?_
      refine pX12_pages' hc hd ?_
      intro _ _
      refine wp_icmp_geN dX12_kindAll_11 rfl rfl ⟨by omega, by omega⟩ (fun c1 => ?_) (fun c1 => ?_)
      · refine wp_iload_n dX12_kindAll_83 rfl rfl ?_
        refine wp_ireturn dX12_kindAll_84 rfl ?_
        have e9 : p = rP r := by omega
        subst e9
        exact hq
      · refine wp_iconst (v := (nI 0)) dX12_kindAll_14 (by decide +kernel) ?_
        refine wp_istore (ls1 := [_, _, _, _, _, some _, _]) dX12_kindAll_15 (by decide) rfl ?_
        refine kind_in hc hd nx hf (by omega) hpl (fun x9 => ?_)
        refine wp_iinc1 (ls1 := [_, _, _, _, some _, _, _]) dX12_kindAll_77 rfl (by decide) rfl ?_
        refine wp_goto dX12_kindAll_80 ?_
        rw [show kaA r f k p (rM r f p) = kaA r f k (p + 1) 0 from fo_p.symm]
        exact ih (p + 1) _ _ (by omega) (by omega)
  refine wp_iconst (v := (-1)) dX12_kindAll_0 (by decide +kernel) ?_
  refine wp_istore_n (ls1 := [_, _, _, some _, _, _, _]) dX12_kindAll_1 rfl (by decide) rfl ?_
  refine wp_iconst (v := (nI 0)) dX12_kindAll_2 (by decide +kernel) ?_
  refine wp_istore (ls1 := [_, _, _, _, some _, _, _]) dX12_kindAll_3 (by decide) rfl ?_
  exact hloop (rP r + 1) 0 _ _ (by omega) (by omega)
theorem shA_s {r : Nat → Int64} {f p i : Nat} : shA r f p (i + 1) = shF r (shA r f p i) (p, rA r f p i, rB r f p i) := fo_s
theorem shA_bd2 {r : Nat → Int64} {F : Nat} {pa my : Nat → Int32} {f p i : Nat} (hd : sOK r F pa my) (hf : f < F) (hp : p < rP r) (hi : i ≤ rM r f p) : (shA r f p i).1 ≤ 41 ∧ (shA r f p i).2.1 ≤ 41 ∧ (shA r f p i).2.2.1 < 8 ∧ (shA r f p i).2.2.2 < 8 := by
  have hF4 := hd.f4
  have hP6 := hd.w.1.2
  refine shA_bd _ _ (by decide) (by decide) (by decide) (by decide) (fun x hx => ?_)
  rcases List.mem_append.mp hx with h | h
  · obtain ⟨q, j, h1, h2, h3⟩ := (pt_mem p).mp h
    have h4 := (hd.w.2.2 f q (by omega) (by omega)).1.2
    have h5 := (hd.ab f q j (by omega) (by omega) (by omega)).2
    have h6 := (hd.w.2.1 q (by omega)).2
    subst h3
    show rB r f q j - rA r f q j ≤ 41
    omega
  · obtain ⟨j, h1, h3⟩ := List.mem_map.mp h
    have h2 := List.mem_range.mp h1
    have h4 := (hd.w.2.2 f p (by omega) (by omega)).1.2
    have h5 := (hd.ab f p j (by omega) (by omega) (by omega)).2
    have h6 := (hd.w.2.1 p (by omega)).2
    subst h3
    show rB r f p j - rA r f p j ≤ 41
    omega
set_option maxRecDepth 20000 in
theorem shape_in {h : mH} {Q : Option Value → mH → Prop} {r : Nat → Int64} {F : Nat} {pa my : Nat → Int32} {f p : Nat} {x4 : Option Value} {U : Nat → Int64} (hc : mC h r F pa my) (hd : sOK r F pa my) (nx : numX r h) (hf : f < F) (hp : p < rP r) (e1 : hL h 181 = U) (hT0 : U 0 = lN (shA r f p 0).1) (hT1 : U 1 = lN (shA r f p 0).2.1) (hT2 : U 2 = lN (shA r f p 0).2.2.1) (hT3 : U 3 = lN (shA r f p 0).2.2.2) (K9 : ∀ x h1 U, mFr (mP [] [181]) h h1 → mC h1 r F pa my → numX r h1 → hL h1 181 = U → U 0 = lN (shA r f p (rM r f p)).1 → U 1 = lN (shA r f p (rM r f p)).2.1 → U 2 = lN (shA r f p (rM r f p)).2.2.1 → U 3 = lN (shA r f p (rM r f p)).2.2.2 → Wp mX12_laysShape 3 70 171 [some (.ref 153), some (.int (nI f)), some (.int (nI p)), some (.int (nI (rM r f p))), x] [] h1 Q) : Wp mX12_laysShape 3 70 42 [some (.ref 153), some (.int (nI f)), some (.int (nI p)), some (.int (nI 0)), x4] [] h Q := by
  have hF4 := hd.f4
  have hP6 := hd.w.1.2
  have hM8 := (hd.w.2.2 f p (by omega) (by omega)).1.2
  have hloop : ∀  (t : Nat) (i : Nat) (x4 : Option Value) (h1 : mH) (U : Nat → Int64), (i ≤ rM r f p) → (mC h1 r F pa my) → (numX r h1) → (mFr (mP [] [181]) h h1) → (hL h1 181 = U) → (U 0 = lN (shA r f p i).1) → (U 1 = lN (shA r f p i).2.1) → (U 2 = lN (shA r f p i).2.2.1) → (U 3 = lN (shA r f p i).2.2.2) → (rM r f p < i + t) → Wp mX12_laysShape 3 70 42 [some (.ref 153), some (.int (nI f)), some (.int (nI p)), some (.int (nI i)), x4] [] h1 Q := by
    intro t
    induction t with
    | zero => intros; omega
    | succ t ih =>
      intro i x4 h1 U hi hc1 nx1 hf1 e1 hT0 hT1 hT2 hT3 hmz
      have hbd := shA_bd2 (p := p) (i := i) hd hf (by omega) hi
      refine wp_iload_n dX12_laysShape_42 rfl rfl ?_
      refine wp_aload_n dX12_laysShape_43 rfl rfl ?_
      refine wp_iload_n dX12_laysShape_44 rfl rfl ?_
      refine wp_iload_n dX12_laysShape_45 rfl rfl ?_
      refine wp_cV2 1 21 [some _, some _, some _] dX12_laysShape_46 tX12_partsOf rfl (by decide) nX12_partsOf vX12_partsOf lX12_302 ⟨by decide, by decide⟩ (Nat.le_of_ble_eq_true rfl) (mO hc1.1) (Nat.le_of_ble_eq_true rfl) rfl ?_
      refine pX12_partsOf' hc1 hd (by omega) (by omega) ?_
      intro _ _
      refine wp_icmp_geN dX12_laysShape_49 rfl rfl ⟨by omega, by omega⟩ (fun c1 => ?_) (fun c1 => ?_)
      · have e9 : i = rM r f p := by omega
        subst e9
        exact K9 _ _ _ hf1 hc1 nx1 e1 hT0 hT1 hT2 hT3
      · have hso := (hd.so f p i (by omega) (by omega) (by omega)).1
        have hab := (hd.ab f p i (by omega) (by omega) (by omega)).2
        have hT4 := (hd.w.2.1 p (by omega)).2
        have hkA := kd_lt (rW r p (rA r f p i))
        have hkB := kd_lt (rW r p (rB r f p i - 1))
        refine wp_aload_n dX12_laysShape_52 rfl rfl ?_
        refine wp_iload_n dX12_laysShape_53 rfl rfl ?_
        refine wp_iload_n dX12_laysShape_54 rfl rfl ?_
        refine wp_iload_n dX12_laysShape_55 rfl rfl ?_
        refine wp_cV3 1 21 [some _, some _, some _, some _] dX12_laysShape_56 tX12_toOf rfl (by decide) nX12_toOf vX12_toOf lX12_305 ⟨by decide, by decide⟩ (Nat.le_of_ble_eq_true rfl) (mO hc1.1) (Nat.le_of_ble_eq_true rfl) rfl ?_
        refine pX12_toOf' hc1 hd (by omega) (by omega) (by omega) ?_
        intro _ _
        refine wp_aload_n dX12_laysShape_59 rfl rfl ?_
        refine wp_iload_n dX12_laysShape_60 rfl rfl ?_
        refine wp_iload_n dX12_laysShape_61 rfl rfl ?_
        refine wp_iload_n dX12_laysShape_62 rfl rfl ?_
        refine wp_cV3 1 21 [some _, some _, some _, some _] dX12_laysShape_63 tX12_fromOf rfl (by decide) nX12_fromOf vX12_fromOf lX12_309 ⟨by decide, by decide⟩ (Nat.le_of_ble_eq_true rfl) (mO hc1.1) (Nat.le_of_ble_eq_true rfl) rfl ?_
        refine pX12_fromOf' hc1 hd (by omega) (by omega) (by omega) ?_
        intro _ _
        refine wp_isub dX12_laysShape_66 ?_
        rw [pk_sub (by omega)]
        refine wp_istore (ls1 := [_, _, _, _, some _]) dX12_laysShape_67 (by decide) rfl ?_
        refine wp_aload_n dX12_laysShape_69 rfl rfl ?_
        refine wp_getR dX12_laysShape_70 lX12_101 rfl (mO hc1.1) (mR_shape hc1.1) ?_
        refine wp_iconst (v := (nI 0)) dX12_laysShape_73 (by decide +kernel) ?_
        refine wp_aload_n dX12_laysShape_74 rfl rfl ?_
        refine wp_getR dX12_laysShape_75 lX12_101 rfl (mO hc1.1) (mR_shape hc1.1) ?_
        refine wp_iconst (v := (nI 0)) dX12_laysShape_78 (by decide +kernel) ?_
        refine wp_laldV dX12_laysShape_79 (mA_shape hc1.1) rfl ⟨by omega, by decide⟩ ((congrFun e1 0).trans hT0) ?_
        refine wp_l2i dX12_laysShape_80 ?_
        rw [lN_i]
        refine wp_iload dX12_laysShape_81 rfl ?_
        refine wp_cS2 0 0 [some _, some _] dX12_laysShape_83 tX12_lesser sX12_lesser lX12_448 ⟨by decide, by decide⟩ (Nat.le_of_ble_eq_true rfl) (Nat.le_of_ble_eq_true rfl) rfl ?_
        try rw [pk_sub (by omega)]
        refine pX12_lesserN (by omega) (by omega) ?_
        intro _ _
        refine wp_i2l dX12_laysShape_86 ?_
        rw [nI_l (by omega)]
        refine wp_lastN dX12_laysShape_87 (mA_shape hc1.1) rfl ⟨by omega, by decide⟩ ?_
        refine sealAL e1 (fun hh1 f1 e1 => ?_)
        have mc1 := hc1.fr f1 (by decide) (by decide) (by decide) (by decide) (by decide)
        have nx1 := nx1.fr f1 (by decide) (by decide)
        refine wp_aload_n dX12_laysShape_88 rfl rfl ?_
        refine wp_getR dX12_laysShape_89 lX12_101 rfl (mO mc1.1) (mR_shape mc1.1) ?_
        refine wp_iconst (v := (nI 1)) dX12_laysShape_92 (by decide +kernel) ?_
        refine wp_aload_n dX12_laysShape_93 rfl rfl ?_
        refine wp_getR dX12_laysShape_94 lX12_101 rfl (mO mc1.1) (mR_shape mc1.1) ?_
        refine wp_iconst (v := (nI 1)) dX12_laysShape_97 (by decide +kernel) ?_
        refine wp_laldV dX12_laysShape_98 (mA_shape mc1.1) rfl ⟨by omega, by decide⟩ ((congrFun e1 1).trans ((up1_ne (by decide)).trans hT1)) ?_
        refine wp_l2i dX12_laysShape_99 ?_
        rw [lN_i]
        refine wp_iload dX12_laysShape_100 rfl ?_
        refine wp_cS2 0 0 [some _, some _] dX12_laysShape_102 tX12_greater sX12_greater lX12_451 ⟨by decide, by decide⟩ (Nat.le_of_ble_eq_true rfl) (Nat.le_of_ble_eq_true rfl) rfl ?_
        try rw [pk_sub (by omega)]
        refine pX12_greaterN (by omega) (by omega) ?_
        intro _ _
        refine wp_i2l dX12_laysShape_105 ?_
        rw [nI_l (by omega)]
        refine wp_lastN dX12_laysShape_106 (mA_shape mc1.1) rfl ⟨by omega, by decide⟩ ?_
        refine sealAL e1 (fun hh2 f2 e2 => ?_)
        have mc2 := mc1.fr f2 (by decide) (by decide) (by decide) (by decide) (by decide)
        have nx2 := nx1.fr f2 (by decide) (by decide)
        refine wp_aload_n dX12_laysShape_107 rfl rfl ?_
        refine wp_getR dX12_laysShape_108 lX12_101 rfl (mO mc2.1) (mR_shape mc2.1) ?_
        refine wp_iconst (v := (nI 2)) dX12_laysShape_111 (by decide +kernel) ?_
        refine wp_dup2 dX12_laysShape_112 rfl rfl ?_
        refine wp_laldV dX12_laysShape_113 (mA_shape mc2.1) rfl ⟨by omega, by decide⟩ ((congrFun e2 2).trans ((up1_ne (by decide)).trans ((up1_ne (by decide)).trans hT2))) ?_
        refine wp_lconst (v := 1) dX12_laysShape_114 (by decide +kernel) ?_
        refine wp_aload_n dX12_laysShape_115 rfl rfl ?_
        refine wp_getR dX12_laysShape_116 lX12_52 rfl (mO mc2.1) (mR_kinds mc2.1) ?_
        refine wp_bipush (v := (nI 40)) dX12_laysShape_119 (by decide +kernel) ?_
        refine wp_iload_n dX12_laysShape_121 rfl rfl ?_
        refine wp_imul dX12_laysShape_122 ?_
        refine wp_aload_n dX12_laysShape_123 rfl rfl ?_
        refine wp_iload_n dX12_laysShape_124 rfl rfl ?_
        refine wp_iload_n dX12_laysShape_125 rfl rfl ?_
        refine wp_iload_n dX12_laysShape_126 rfl rfl ?_
        refine wp_cV3 1 21 [some _, some _, some _, some _] dX12_laysShape_127 tX12_fromOf rfl (by decide) nX12_fromOf vX12_fromOf lX12_309 ⟨by decide, by decide⟩ (Nat.le_of_ble_eq_true rfl) (mO mc2.1) (Nat.le_of_ble_eq_true rfl) rfl ?_
        refine pX12_fromOf' mc2 hd (by omega) (by omega) (by omega) ?_
        intro _ _
        refine wp_iadd dX12_laysShape_130 ?_
        refine wp_ialdV dX12_laysShape_131 (mA_kinds mc2.1) (isN_add (isN_mul rfl rfl) rfl) ⟨by omega, by decide⟩ (nx2.2.2 p (rA r f p i) (by omega) (by omega)).2.2 ?_
        refine wp_lshl dX12_laysShape_132 ?_
        refine wp_lor dX12_laysShape_133 ?_
        rw [show (1 : Int64) = lN 1 from rfl, wb_shl 1 (by omega), Nat.one_mul, wb_or (by omega) (by have := Nat.pow_lt_pow_right (a := 2) (n := 3) (by decide) hkA; omega)]
        refine wp_lastN dX12_laysShape_134 (mA_shape mc2.1) rfl ⟨by omega, by decide⟩ ?_
        refine sealAL e2 (fun hh3 f3 e3 => ?_)
        have mc3 := mc2.fr f3 (by decide) (by decide) (by decide) (by decide) (by decide)
        have nx3 := nx2.fr f3 (by decide) (by decide)
        refine wp_aload_n dX12_laysShape_135 rfl rfl ?_
        refine wp_getR dX12_laysShape_136 lX12_101 rfl (mO mc3.1) (mR_shape mc3.1) ?_
        refine wp_iconst (v := (nI 3)) dX12_laysShape_139 (by decide +kernel) ?_
        refine wp_dup2 dX12_laysShape_140 rfl rfl ?_
        refine wp_laldV dX12_laysShape_141 (mA_shape mc3.1) rfl ⟨by omega, by decide⟩ ((congrFun e3 3).trans ((up1_ne (by decide)).trans ((up1_ne (by decide)).trans ((up1_ne (by decide)).trans hT3)))) ?_
        refine wp_lconst (v := 1) dX12_laysShape_142 (by decide +kernel) ?_
        refine wp_aload_n dX12_laysShape_143 rfl rfl ?_
        refine wp_getR dX12_laysShape_144 lX12_52 rfl (mO mc3.1) (mR_kinds mc3.1) ?_
        refine wp_bipush (v := (nI 40)) dX12_laysShape_147 (by decide +kernel) ?_
        refine wp_iload_n dX12_laysShape_149 rfl rfl ?_
        refine wp_imul dX12_laysShape_150 ?_
        refine wp_aload_n dX12_laysShape_151 rfl rfl ?_
        refine wp_iload_n dX12_laysShape_152 rfl rfl ?_
        refine wp_iload_n dX12_laysShape_153 rfl rfl ?_
        refine wp_iload_n dX12_laysShape_154 rfl rfl ?_
        refine wp_cV3 1 21 [some _, some _, some _, some _] dX12_laysShape_155 tX12_toOf rfl (by decide) nX12_toOf vX12_toOf lX12_305 ⟨by decide, by decide⟩ (Nat.le_of_ble_eq_true rfl) (mO mc3.1) (Nat.le_of_ble_eq_true rfl) rfl ?_
        refine pX12_toOf' mc3 hd (by omega) (by omega) (by omega) ?_
        intro _ _
        refine wp_iadd dX12_laysShape_158 ?_
        refine wp_iconst (v := (nI 1)) dX12_laysShape_159 (by decide +kernel) ?_
        refine wp_isub dX12_laysShape_160 ?_
        refine wp_ialdV dX12_laysShape_161 (mA_kinds mc3.1) (isN_sub (isN_add (isN_mul rfl rfl) rfl) rfl (by omega)) ⟨by omega, by decide⟩ ((congrArg (hI hh3 165) (show 40 * p + rB r f p i - 1 = 40 * p + (rB r f p i - 1) by omega)).trans (nx3.2.2 p (rB r f p i - 1) (by omega) (by omega)).2.2) ?_
        refine wp_lshl dX12_laysShape_162 ?_
        refine wp_lor dX12_laysShape_163 ?_
        rw [show (1 : Int64) = lN 1 from rfl, wb_shl 1 (by omega), Nat.one_mul, wb_or (by omega) (by have := Nat.pow_lt_pow_right (a := 2) (n := 3) (by decide) hkB; omega)]
        refine wp_lastN dX12_laysShape_164 (mA_shape mc3.1) rfl ⟨by omega, by decide⟩ ?_
        refine sealAL e3 (fun hh4 f4 e4 => ?_)
        have mc4 := mc3.fr f4 (by decide) (by decide) (by decide) (by decide) (by decide)
        have nx4 := nx3.fr f4 (by decide) (by decide)
        refine wp_iinc1 (ls1 := [_, _, _, some _, _]) dX12_laysShape_165 rfl (by decide) rfl ?_
        refine wp_goto dX12_laysShape_168 ?_
        refine ih (i + 1) _ _ _ (by omega) mc4 nx4 (((((hf1.up (by decide) (by decide)).tr (f1.up (by decide) (by decide))).tr (f2.up (by decide) (by decide))).tr (f3.up (by decide) (by decide))).tr (f4.up (by decide) (by decide))) e4 ?_ ?_ ?_ ?_ (by omega)
        all_goals rw [shA_s]
        all_goals unfold up1
        all_goals rfl
  exact hloop (rM r f p + 1) 0 x4 h U (by omega) hc nx mFr.rf e1 hT0 hT1 hT2 hT3 (by omega)
