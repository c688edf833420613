/-! ===== rules over natural numbers ===== -/
theorem lc_cases (x y : Int64) : (x < y ∧ lg_cmp x y = -1) ∨ (x = y ∧ lg_cmp x y = 0) ∨ (y < x ∧ lg_cmp x y = 1) := by
  unfold lg_cmp
  by_cases h1 : x > y
  · exact Or.inr (Or.inr ⟨h1, by rw [if_pos h1]⟩)
  · by_cases h2 : x = y
    · exact Or.inr (Or.inl ⟨h2, by rw [if_neg h1, if_pos h2]⟩)
    · refine Or.inl ⟨?_, by rw [if_neg h1, if_neg h2]⟩
      have h3 : x ≤ y := Int64.not_lt.mp h1
      rw [Int64.lt_iff_toInt_lt]
      rw [Int64.le_iff_toInt_le] at h3
      have h4 : x.toInt ≠ y.toInt := fun q => h2 (Int64.toInt_inj.mp q)
      omega
theorem lc_eq (x y : Int64) : lg_cmp x y = 0 ↔ x = y := by
  rcases lc_cases x y with ⟨h1, h2⟩ | ⟨h1, h2⟩ | ⟨h1, h2⟩ <;> rw [h2] <;> (try rw [Int64.lt_iff_toInt_lt] at h1)
  · exact ⟨fun q => absurd q (by decide), fun q => by subst q; omega⟩
  · exact ⟨fun _ => h1, fun _ => rfl⟩
  · exact ⟨fun q => absurd q (by decide), fun q => by subst q; omega⟩
theorem lc_lt (x y : Int64) : lg_cmp x y < 0 ↔ x < y := by
  rcases lc_cases x y with ⟨h1, h2⟩ | ⟨h1, h2⟩ | ⟨h1, h2⟩ <;> rw [h2]
  · exact ⟨fun _ => h1, fun _ => by decide⟩
  · exact ⟨fun q => absurd q (by decide), fun q => by subst h1; rw [Int64.lt_iff_toInt_lt] at q; omega⟩
  · exact ⟨fun q => absurd q (by decide), fun q => by rw [Int64.lt_iff_toInt_lt] at q h1; omega⟩
theorem lc_gt (x y : Int64) : 0 < lg_cmp x y ↔ y < x := by
  rcases lc_cases x y with ⟨h1, h2⟩ | ⟨h1, h2⟩ | ⟨h1, h2⟩ <;> rw [h2]
  · exact ⟨fun q => absurd q (by decide), fun q => by rw [Int64.lt_iff_toInt_lt] at q h1; omega⟩
  · exact ⟨fun q => absurd q (by decide), fun q => by subst h1; rw [Int64.lt_iff_toInt_lt] at q; omega⟩
  · exact ⟨fun _ => h1, fun _ => by decide⟩
theorem lc_ge (x y : Int64) : 0 ≤ lg_cmp x y ↔ y ≤ x := by
  rw [← Int32.not_lt, ← Int64.not_lt, lc_lt]
theorem lc_le (x y : Int64) : lg_cmp x y ≤ 0 ↔ x ≤ y := by
  rw [← Int32.not_lt, ← Int64.not_lt, lc_gt]
theorem isN_add {x y : Int32} {a b : Nat} (h1 : x = nI a) (h2 : y = nI b) : x + y = nI (a + b) := by rw [h1, h2, nI_add]
theorem isN_mul {x y : Int32} {a b : Nat} (h1 : x = nI a) (h2 : y = nI b) : x * y = nI (a * b) := by rw [h1, h2, pk_mul]
theorem isN_sub {x y : Int32} {a b : Nat} (h1 : x = nI a) (h2 : y = nI b) (h : b ≤ a) : x - y = nI (a - b) := by rw [h1, h2, pk_sub h]
def inN (j n : Nat) : Prop := j < n ∧ n < 2147483648
theorem inN.vp {i : Int32} {j n : Nat} (e : i = nI j) (h : inN j n) : vp_in i n := by rw [e]; exact vp_in_nI h.1 h.2
theorem inN.cl {i : Int32} {j n : Nat} (e : i = nI j) (h : inN j n) : i.toNatClampNeg = j := by rw [e]; exact nI_clamp (by have := h.1; have := h.2; omega)
section RulesN
variable {M : mM} {fr lo pc pc1 t : Nat} {ls ls1 : List (Option Value)} {st : List Value} {h : mH} {Q : Option Value → mH → Prop}
theorem wp_iinc1 {i j : Nat} (hd : At M.2.1 pc (.iinc i 1) 3 pc1) (hl : ls[i]? = some (some (.int (nI j)))) (hn : i < M.2.2.1) (hs : mset ls i (.int (nI (j + 1))) = ls1) (k : Wp M fr lo pc1 ls1 st h Q) : Wp M fr lo pc ls st h Q :=
  wp_iinc hd hl (by rw [nI_succ]; rfl) hn hs k
theorem wp_ialdN {a n j : Nat} {i : Int32} (hd : At M.2.1 pc (.iaload) 1 pc1) (ha : hA h a 14 n) (e : i = nI j) (hi : inN j n) (k9 : Wp M fr lo pc1 ls (.int (hI h a j) :: st) h Q) : Wp M fr lo pc ls (.int i :: .ref a :: st) h Q :=
  wp_iald hd ha (hi.vp e) (by rw [hi.cl e]; exact k9)
theorem wp_baldN {a n j : Nat} {i : Int32} (hd : At M.2.1 pc (.baload) 1 pc1) (ha : hA h a 13 n) (e : i = nI j) (hi : inN j n) (k9 : Wp M fr lo pc1 ls (.int (hI h a j) :: st) h Q) : Wp M fr lo pc ls (.int i :: .ref a :: st) h Q :=
  wp_bald hd ha (hi.vp e) (by rw [hi.cl e]; exact k9)
theorem wp_zaldN {a n j : Nat} {i : Int32} (hd : At M.2.1 pc (.baload) 1 pc1) (ha : hA h a 16 n) (e : i = nI j) (hi : inN j n) (k9 : Wp M fr lo pc1 ls (.int (hI h a j) :: st) h Q) : Wp M fr lo pc ls (.int i :: .ref a :: st) h Q :=
  wp_zald hd ha (hi.vp e) (by rw [hi.cl e]; exact k9)
theorem wp_laldN {a n j : Nat} {i : Int32} (hd : At M.2.1 pc (.laload) 1 pc1) (ha : hA h a 15 n) (e : i = nI j) (hi : inN j n) (k9 : Wp M fr lo pc1 ls (.long (hL h a j) :: st) h Q) : Wp M fr lo pc ls (.int i :: .ref a :: st) h Q :=
  wp_lald hd ha (hi.vp e) (by rw [hi.cl e]; exact k9)
theorem wp_iastN {a n j : Nat} {i : Int32} {x : Int32} (hd : At M.2.1 pc (.iastore) 1 pc1) (ha : hA h a 14 n) (e : i = nI j) (hi : inN j n) (k9 : Wp M fr lo pc1 ls st (sI h a j x) Q) : Wp M fr lo pc ls (.int x :: .int i :: .ref a :: st) h Q :=
  wp_iast hd ha (hi.vp e) (by rw [hi.cl e]; exact k9)
theorem wp_bastN {a n j : Nat} {i : Int32} {x : Int32} (hd : At M.2.1 pc (.bastore) 1 pc1) (ha : hA h a 13 n) (e : i = nI j) (hi : inN j n) (k9 : Wp M fr lo pc1 ls st (sI h a j (vp_nar .byte x)) Q) : Wp M fr lo pc ls (.int x :: .int i :: .ref a :: st) h Q :=
  wp_bast hd ha (hi.vp e) (by rw [hi.cl e]; exact k9)
theorem wp_zastN {a n j : Nat} {i : Int32} {x : Int32} (hd : At M.2.1 pc (.bastore) 1 pc1) (ha : hA h a 16 n) (e : i = nI j) (hi : inN j n) (k9 : Wp M fr lo pc1 ls st (sI h a j (vp_nar .boolean x)) Q) : Wp M fr lo pc ls (.int x :: .int i :: .ref a :: st) h Q :=
  wp_zast hd ha (hi.vp e) (by rw [hi.cl e]; exact k9)
theorem wp_lastN {a n j : Nat} {i : Int32} {x : Int64} (hd : At M.2.1 pc (.lastore) 1 pc1) (ha : hA h a 15 n) (e : i = nI j) (hi : inN j n) (k9 : Wp M fr lo pc1 ls st (sL h a j x) Q) : Wp M fr lo pc ls (.long x :: .int i :: .ref a :: st) h Q :=
  wp_last hd ha (hi.vp e) (by rw [hi.cl e]; exact k9)
theorem wp_icmp_eqN {x y : Int32} {a b : Nat} {off : Int} (hd : Aj M.2.1 pc (.if_icmp .eq off) off 3 pc1 t) (e1 : x = nI a) (e2 : y = nI b) (hab : a < 2147483648 ∧ b < 2147483648) (kt : a = b → Wp M fr lo t ls st h Q) (kf : a ≠ b → Wp M fr lo pc1 ls st h Q) : Wp M fr lo pc ls (.int y :: .int x :: st) h Q := by
  obtain ⟨ha, hb⟩ := hab
  subst e1
  subst e2
  refine wp_icmp_eq hd (fun c => kt ((nI_eq ha hb).mp c)) (fun c => kf (fun q => c ((nI_eq ha hb).mpr q)))
theorem wp_icmp_neN {x y : Int32} {a b : Nat} {off : Int} (hd : Aj M.2.1 pc (.if_icmp .ne off) off 3 pc1 t) (e1 : x = nI a) (e2 : y = nI b) (hab : a < 2147483648 ∧ b < 2147483648) (kt : a ≠ b → Wp M fr lo t ls st h Q) (kf : a = b → Wp M fr lo pc1 ls st h Q) : Wp M fr lo pc ls (.int y :: .int x :: st) h Q := by
  obtain ⟨ha, hb⟩ := hab
  subst e1
  subst e2
  refine wp_icmp_ne hd (fun c => kt (fun q => c ((nI_eq ha hb).mpr q))) (fun c => kf ((nI_eq ha hb).mp c))
theorem wp_icmp_ltN {x y : Int32} {a b : Nat} {off : Int} (hd : Aj M.2.1 pc (.if_icmp .lt off) off 3 pc1 t) (e1 : x = nI a) (e2 : y = nI b) (hab : a < 2147483648 ∧ b < 2147483648) (kt : a < b → Wp M fr lo t ls st h Q) (kf : b ≤ a → Wp M fr lo pc1 ls st h Q) : Wp M fr lo pc ls (.int y :: .int x :: st) h Q := by
  obtain ⟨ha, hb⟩ := hab
  subst e1
  subst e2
  refine wp_icmp_lt hd (fun c => kt ((nI_ltI ha hb).mp c)) (fun c => kf (Nat.le_of_not_lt (fun q => c ((nI_ltI ha hb).mpr q))))
theorem wp_icmp_geN {x y : Int32} {a b : Nat} {off : Int} (hd : Aj M.2.1 pc (.if_icmp .ge off) off 3 pc1 t) (e1 : x = nI a) (e2 : y = nI b) (hab : a < 2147483648 ∧ b < 2147483648) (kt : b ≤ a → Wp M fr lo t ls st h Q) (kf : a < b → Wp M fr lo pc1 ls st h Q) : Wp M fr lo pc ls (.int y :: .int x :: st) h Q := by
  obtain ⟨ha, hb⟩ := hab
  subst e1
  subst e2
  refine wp_icmp_ge hd (fun c => kt ((nI_leI hb ha).mp c)) (fun c => kf (Nat.lt_of_not_le (fun q => c ((nI_leI hb ha).mpr q))))
theorem wp_icmp_gtN {x y : Int32} {a b : Nat} {off : Int} (hd : Aj M.2.1 pc (.if_icmp .gt off) off 3 pc1 t) (e1 : x = nI a) (e2 : y = nI b) (hab : a < 2147483648 ∧ b < 2147483648) (kt : b < a → Wp M fr lo t ls st h Q) (kf : a ≤ b → Wp M fr lo pc1 ls st h Q) : Wp M fr lo pc ls (.int y :: .int x :: st) h Q := by
  obtain ⟨ha, hb⟩ := hab
  subst e1
  subst e2
  refine wp_icmp_gt hd (fun c => kt ((nI_ltI hb ha).mp c)) (fun c => kf (Nat.le_of_not_lt (fun q => c ((nI_ltI hb ha).mpr q))))
theorem wp_icmp_leN {x y : Int32} {a b : Nat} {off : Int} (hd : Aj M.2.1 pc (.if_icmp .le off) off 3 pc1 t) (e1 : x = nI a) (e2 : y = nI b) (hab : a < 2147483648 ∧ b < 2147483648) (kt : a ≤ b → Wp M fr lo t ls st h Q) (kf : b < a → Wp M fr lo pc1 ls st h Q) : Wp M fr lo pc ls (.int y :: .int x :: st) h Q := by
  obtain ⟨ha, hb⟩ := hab
  subst e1
  subst e2
  refine wp_icmp_le hd (fun c => kt ((nI_leI ha hb).mp c)) (fun c => kf (Nat.lt_of_not_le (fun q => c ((nI_leI ha hb).mpr q))))
theorem wp_aaldJ {a n j kd : Nat} {i : Int32} {o : Option Nat} (hd : At M.2.1 pc (.aaload) 1 pc1) (ha : hA h a kd n) (h1 : 17 ≤ kd) (h2 : kd < 22) (e : i = nI j) (hi : inN j n) (hv : hR h a j = o) (k9 : Wp M fr lo pc1 ls (va_rf o :: st) h Q) : Wp M fr lo pc ls (.int i :: .ref a :: st) h Q :=
  wp_aald hd ha h1 h2 (hi.vp e) (by rw [hi.cl e]; exact hv) k9
theorem wp_aastJ {a v n j kd : Nat} {i : Int32} (hd : At M.2.1 pc (.aastore) 1 pc1) (ha : hA h a kd n) (h1 : 17 ≤ kd) (h2 : kd < 21) (e : i = nI j) (hi : inN j n) (ho : hO h v (mRc kd)) (k9 : Wp M fr lo pc1 ls st (sR h a j (some v)) Q) : Wp M fr lo pc ls (.ref v :: .int i :: .ref a :: st) h Q :=
  wp_aast hd ha h1 h2 (hi.vp e) ho (by rw [hi.cl e]; exact k9)
theorem wp_aastNJ {a n j kd : Nat} {i : Int32} (hd : At M.2.1 pc (.aastore) 1 pc1) (ha : hA h a kd n) (h1 : 17 ≤ kd) (h2 : kd < 21) (e : i = nI j) (hi : inN j n) (k9 : Wp M fr lo pc1 ls st (sR h a j none) Q) : Wp M fr lo pc ls (.null :: .int i :: .ref a :: st) h Q :=
  wp_aastN hd ha h1 h2 (hi.vp e) (by rw [hi.cl e]; exact k9)
theorem wp_lc_eq {x y : Int64} {pc2 : Nat} {off : Int} (hd : At M.2.1 pc (.lcmp) 1 pc1) (hj : Aj M.2.1 pc1 (.ifCond .eq off) off 3 pc2 t) (kt : x = y → Wp M fr lo t ls st h Q) (kf : ¬ x = y → Wp M fr lo pc2 ls st h Q) : Wp M fr lo pc ls (.long y :: .long x :: st) h Q := by
  refine wp_lcmp hd ?_
  exact wp_if_eq hj (fun c => kt ((lc_eq x y).mp c)) (fun c => kf (fun q => c ((lc_eq x y).mpr q)))
theorem wp_lc_ne {x y : Int64} {pc2 : Nat} {off : Int} (hd : At M.2.1 pc (.lcmp) 1 pc1) (hj : Aj M.2.1 pc1 (.ifCond .ne off) off 3 pc2 t) (kt : ¬ x = y → Wp M fr lo t ls st h Q) (kf : x = y → Wp M fr lo pc2 ls st h Q) : Wp M fr lo pc ls (.long y :: .long x :: st) h Q := by
  refine wp_lcmp hd ?_
  exact wp_if_ne hj (fun c => kt (fun q => c ((lc_eq x y).mpr q))) (fun c => kf ((lc_eq x y).mp c))
theorem wp_lc_lt {x y : Int64} {pc2 : Nat} {off : Int} (hd : At M.2.1 pc (.lcmp) 1 pc1) (hj : Aj M.2.1 pc1 (.ifCond .lt off) off 3 pc2 t) (kt : x < y → Wp M fr lo t ls st h Q) (kf : ¬ x < y → Wp M fr lo pc2 ls st h Q) : Wp M fr lo pc ls (.long y :: .long x :: st) h Q := by
  refine wp_lcmp hd ?_
  exact wp_if_lt hj (fun c => kt ((lc_lt x y).mp c)) (fun c => kf (fun q => c ((lc_lt x y).mpr q)))
theorem wp_lc_ge {x y : Int64} {pc2 : Nat} {off : Int} (hd : At M.2.1 pc (.lcmp) 1 pc1) (hj : Aj M.2.1 pc1 (.ifCond .ge off) off 3 pc2 t) (kt : y ≤ x → Wp M fr lo t ls st h Q) (kf : ¬ y ≤ x → Wp M fr lo pc2 ls st h Q) : Wp M fr lo pc ls (.long y :: .long x :: st) h Q := by
  refine wp_lcmp hd ?_
  exact wp_if_ge hj (fun c => kt ((lc_ge x y).mp c)) (fun c => kf (fun q => c ((lc_ge x y).mpr q)))
theorem wp_lc_gt {x y : Int64} {pc2 : Nat} {off : Int} (hd : At M.2.1 pc (.lcmp) 1 pc1) (hj : Aj M.2.1 pc1 (.ifCond .gt off) off 3 pc2 t) (kt : y < x → Wp M fr lo t ls st h Q) (kf : ¬ y < x → Wp M fr lo pc2 ls st h Q) : Wp M fr lo pc ls (.long y :: .long x :: st) h Q := by
  refine wp_lcmp hd ?_
  exact wp_if_gt hj (fun c => kt ((lc_gt x y).mp c)) (fun c => kf (fun q => c ((lc_gt x y).mpr q)))
theorem wp_lc_le {x y : Int64} {pc2 : Nat} {off : Int} (hd : At M.2.1 pc (.lcmp) 1 pc1) (hj : Aj M.2.1 pc1 (.ifCond .le off) off 3 pc2 t) (kt : x ≤ y → Wp M fr lo t ls st h Q) (kf : ¬ x ≤ y → Wp M fr lo pc2 ls st h Q) : Wp M fr lo pc ls (.long y :: .long x :: st) h Q := by
  refine wp_lcmp hd ?_
  exact wp_if_le hj (fun c => kt ((lc_le x y).mp c)) (fun c => kf (fun q => c ((lc_le x y).mpr q)))
end RulesN
