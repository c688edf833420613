/-! ===== copies of rows; acts ===== -/
theorem wp_putIN {M : mM} {fr lo pc pc1 : Nat} {ls : List (Option Value)} {st : List Value} {h : mH} {Q : Option Value → mH → Prop} {a ci k idx j : Nat} {v : Int32} (hd : At M.2.1 pc (.putfield idx) 3 pc1) (hf : mFl M.1.cls idx ci k) (ht : mTk (mTy ci k) = 0) (ht2 : mTy ci k = .int) (hfin : mFin M ci k) (ho : hO h a ci) (e : v = nI j) (k9 : Wp M fr lo pc1 ls st (sI h a k (nI j)) Q) : Wp M fr lo pc ls (.int v :: .ref a :: st) h Q := by
  subst e
  exact wp_putI hd hf ht hfin ho (by rw [ht2]; rfl) (by rw [ht2]; rfl) k9
theorem cpL_0 (h : mH) (a0 sp a dp : Nat) : cpL h a0 sp a dp 0 = h := by
  obtain ⟨h1, h2, h3, h4, h5⟩ := h
  show (_, _, _, _, _) = (_, _, _, _, _)
  congr 3
  congr 1
  funext x y
  show (if x = a then va_cpy (h4 a0) (h4 a) sp dp 0 y else h4 x y) = h4 x y
  by_cases hx : x = a
  · subst hx
    rw [if_pos rfl]
    unfold va_cpy
    rw [if_neg (by omega)]
  · rw [if_neg hx]
theorem cpL_succ {h : mH} {a0 sp a dp k : Nat} {v : Int64} (hv : v = hL h a0 (sp + k)) : sL (cpL h a0 sp a dp k) a (dp + k) v = cpL h a0 sp a dp (k + 1) := by
  subst hv
  unfold sL cpL
  congr 3
  congr 1
  funext x y
  show (if x = a ∧ y = dp + k then hL h a0 (sp + k) else if x = a then va_cpy (hL h a0) (hL h a) sp dp k y else hL h x y) = if x = a then va_cpy (hL h a0) (hL h a) sp dp (k + 1) y else hL h x y
  by_cases hx : x = a
  · subst hx
    rw [if_pos rfl, if_pos rfl]
    unfold va_cpy
    by_cases hy : y = dp + k
    · subst hy
      rw [if_pos ⟨rfl, rfl⟩, if_pos (by omega), show dp + k - dp = k by omega]
    · rw [if_neg (fun q => hy q.2)]
      by_cases hz : dp ≤ y ∧ y < dp + k
      · rw [if_pos hz, if_pos (by omega)]
      · rw [if_neg hz, if_neg (by omega)]
  · rw [if_neg (fun q => hx q.1), if_neg hx, if_neg hx]
theorem cpL_oth {h : mH} {a0 sp a dp n x : Nat} (hx : x ≠ a) : hL (cpL h a0 sp a dp n) x = hL h x := by
  funext y
  rw [hL_cpL, if_neg hx]
theorem cpL_out {h : mH} {a0 sp a dp n y : Nat} (hy : y < dp ∨ dp + n ≤ y) : hL (cpL h a0 sp a dp n) a y = hL h a y := by
  rw [hL_cpL, if_pos rfl]
  unfold va_cpy
  rw [if_neg (by omega)]
theorem cpL_in {h : mH} {a0 sp a dp n y : Nat} (h1 : dp ≤ y) (h2 : y < dp + n) : hL (cpL h a0 sp a dp n) a y = hL h a0 (sp + (y - dp)) := by
  rw [hL_cpL, if_pos rfl]
  unfold va_cpy
  rw [if_pos ⟨h1, h2⟩]
/-- the model's memory behind an act -/
def actB (h : mH) (a : Nat) : mH := sI (sI (cpL h 162 0 166 (935 * a) 935) 153 28 (nI (a + 1))) 153 29 (nI 0)
def actH (h : mH) (a : Nat) : mH := if a = 16 then actB (sI (cpL h 166 935 166 0 14025) 153 28 (nI 15)) 15 else actB h a
set_option maxRecDepth 20000 in
theorem act2 {h : mH} {Q : Option Value → mH → Prop} {a : Nat} (hm : mS h) (ha : a ≤ 15) (ha0 : hI h 153 28 = nI a) (hq : Q none (actB h a)) : Wp mX12_act 0 0 54 [some (.ref 153), some (.int (nI 0))] [] h Q := by
  have hloop : ∀ (n k : Nat), k ≤ 935 → 935 < k + n → Wp mX12_act 0 0 54 [some (.ref 153), some (.int (nI k))] [] (cpL h 162 0 166 (935 * a) k) Q := by
    intro n
    induction n with
    | zero => intros; omega
    | succ n ih =>
      intro k hk hmz
      have hm1 : mS (cpL h 162 0 166 (935 * a) k) := hm
      have ha1 : hI (cpL h 162 0 166 (935 * a) k) 153 28 = nI a := ha0
      refine wp_iload_n dX12_act_54 rfl rfl ?_
      refine wp_sipush (v := (nI 935)) dX12_act_55 (by decide +kernel) ?_
      refine wp_icmp_geN dX12_act_58 rfl rfl ⟨by omega, by omega⟩ (fun c1 => ?_) (fun c1 => ?_)
      · refine wp_aload_n dX12_act_88 rfl rfl ?_
        refine wp_dup dX12_act_89 rfl ?_
        refine wp_getI dX12_act_90 lX12_249 rfl (mO hm1) ?_
        refine wp_iconst (v := (nI 1)) dX12_act_93 (by decide +kernel) ?_
        refine wp_iadd dX12_act_94 ?_
        refine wp_putIN dX12_act_95 lX12_249 rfl rfl (Or.inl rfl) (mO hm1) (isN_add ha1 rfl) ?_
        refine wp_aload_n dX12_act_98 rfl rfl ?_
        refine wp_iconst (v := (nI 0)) dX12_act_99 (by decide +kernel) ?_
        refine wp_putI dX12_act_100 lX12_252 rfl (Or.inl rfl) (mO hm1) rfl rfl ?_
        refine wp_vreturn dX12_act_103 rfl ?_
        have e9 : k = 935 := by omega
        subst e9
        exact hq
      · refine wp_aload_n dX12_act_61 rfl rfl ?_
        refine wp_getR dX12_act_62 lX12_55 rfl (mO hm1) (mR_past hm1) ?_
        refine wp_sipush (v := (nI 935)) dX12_act_65 (by decide +kernel) ?_
        refine wp_aload_n dX12_act_68 rfl rfl ?_
        refine wp_getI dX12_act_69 lX12_249 rfl (mO hm1) ?_
        refine wp_imul dX12_act_72 ?_
        refine wp_iload_n dX12_act_73 rfl rfl ?_
        refine wp_iadd dX12_act_74 ?_
        refine wp_aload_n dX12_act_75 rfl rfl ?_
        refine wp_getR dX12_act_76 lX12_43 rfl (mO hm1) (mR_now hm1) ?_
        refine wp_iload_n dX12_act_79 rfl rfl ?_
        refine wp_laldN dX12_act_80 (mA_now hm1) rfl ⟨by omega, by decide⟩ ?_
        refine wp_lastN dX12_act_81 (mA_past hm1) (isN_add (isN_mul rfl ha1) rfl) ⟨by omega, by decide⟩ ?_
        refine wp_iinc1 (ls1 := [_, some _]) dX12_act_82 rfl (by decide) rfl ?_
        refine wp_goto dX12_act_85 ?_
        rw [cpL_succ (by rw [cpL_oth (by decide), Nat.zero_add])]
        exact ih (k + 1) (by omega) (by omega)
  have hl := hloop 936 0 (by omega) (by omega)
  rw [cpL_0] at hl
  exact hl
set_option maxRecDepth 20000 in
theorem pX12_act {h : mH} {Q : Option Value → mH → Prop} {a : Nat} (hm : mS h) (ha16 : a ≤ 16) (ha : hI h 153 28 = nI a) (hq : Q none (actH h a)) : Wp mX12_act 0 0 0 [some (.ref 153), none] [] h Q := by
  have hloop : Q none (actB (sI (cpL h 166 935 166 0 14025) 153 28 (nI 15)) 15) → a = 16 → ∀ (n k : Nat), k ≤ 14025 → 14025 < k + n → Wp mX12_act 0 0 13 [some (.ref 153), some (.int (nI (k + 935)))] [] (cpL h 166 935 166 0 k) Q := by
    intro hq e16 n
    induction n with
    | zero => intros; omega
    | succ n ih =>
      intro k hk hmz
      have hm1 : mS (cpL h 166 935 166 0 k) := hm
      have ha1 : hI (cpL h 166 935 166 0 k) 153 28 = nI 16 := by rw [← e16]; exact ha
      refine wp_iload_n dX12_act_13 rfl rfl ?_
      refine wp_sipush (v := (nI 14960)) dX12_act_14 (by decide +kernel) ?_
      refine wp_icmp_geN dX12_act_17 rfl rfl ⟨by omega, by omega⟩ (fun c1 => ?_) (fun c1 => ?_)
      · refine wp_aload_n dX12_act_42 rfl rfl ?_
        refine wp_dup dX12_act_43 rfl ?_
        refine wp_getI dX12_act_44 lX12_249 rfl (mO hm1) ?_
        refine wp_iconst (v := (nI 1)) dX12_act_47 (by decide +kernel) ?_
        refine wp_isub dX12_act_48 ?_
        refine wp_putIN dX12_act_49 lX12_249 rfl rfl (Or.inl rfl) (mO hm1) (isN_sub ha1 rfl (by omega)) ?_
        have e9 : k = 14025 := by omega
        subst e9
        refine wp_iconst (v := (nI 0)) dX12_act_52 (by decide +kernel) ?_
        refine wp_istore_n (ls1 := [_, some _]) dX12_act_53 rfl (by decide) rfl ?_
        exact act2 hm1 (by omega) (by rw [hI_sI, if_pos ⟨rfl, rfl⟩]) hq
      · refine wp_aload_n dX12_act_20 rfl rfl ?_
        refine wp_getR dX12_act_21 lX12_55 rfl (mO hm1) (mR_past hm1) ?_
        refine wp_iload_n dX12_act_24 rfl rfl ?_
        refine wp_sipush (v := (nI 935)) dX12_act_25 (by decide +kernel) ?_
        refine wp_isub dX12_act_28 ?_
        refine wp_aload_n dX12_act_29 rfl rfl ?_
        refine wp_getR dX12_act_30 lX12_55 rfl (mO hm1) (mR_past hm1) ?_
        refine wp_iload_n dX12_act_33 rfl rfl ?_
        refine wp_laldN dX12_act_34 (mA_past hm1) rfl ⟨by omega, by decide⟩ ?_
        refine wp_lastN dX12_act_35 (mA_past hm1) (isN_sub rfl rfl (by omega)) ⟨by omega, by decide⟩ ?_
        refine wp_iinc1 (ls1 := [_, some _]) dX12_act_36 rfl (by decide) rfl ?_
        refine wp_goto dX12_act_39 ?_
        rw [show k + 935 - 935 = 0 + k by omega, cpL_succ (by rw [cpL_out (by omega)]; congr 1; omega)]
        rw [show k + 935 + 1 = k + 1 + 935 by omega]
        exact ih (k + 1) (by omega) (by omega)
  refine wp_aload_n dX12_act_0 rfl rfl ?_
  refine wp_getI dX12_act_1 lX12_249 rfl (mO hm) ?_
  refine wp_bipush (v := (nI 16)) dX12_act_4 (by decide +kernel) ?_
  refine wp_icmp_neN dX12_act_6 ha rfl ⟨by omega, by omega⟩ (fun c1 => ?_) (fun c1 => ?_)
  · refine wp_iconst (v := (nI 0)) dX12_act_52 (by decide +kernel) ?_
    refine wp_istore_n (ls1 := [_, some _]) dX12_act_53 rfl (by decide) rfl ?_
    unfold actH at hq
    rw [if_neg c1] at hq
    exact act2 hm (by omega) ha hq
  · refine wp_sipush (v := (nI 935)) dX12_act_9 (by decide +kernel) ?_
    refine wp_istore_n (ls1 := [_, some _]) dX12_act_12 rfl (by decide) rfl ?_
    unfold actH at hq
    rw [if_pos c1] at hq
    have hl := hloop hq c1 14026 0 (by omega) (by omega)
    rw [cpL_0] at hl
    exact hl
/-- the row now and a row of the past change places, up to a place -/
def exH (h : mH) (i k : Nat) : mH := (h.1, h.2.1, h.2.2.1, (fun x y => if x = 162 ∧ y < k then h.2.2.2.1 166 (935 * i + y) else if x = 166 ∧ 935 * i ≤ y ∧ y < 935 * i + k then h.2.2.2.1 162 (y - 935 * i) else h.2.2.2.1 x y), h.2.2.2.2)
theorem hL_exH (h : mH) (i k x y : Nat) : hL (exH h i k) x y = if x = 162 ∧ y < k then hL h 166 (935 * i + y) else if x = 166 ∧ 935 * i ≤ y ∧ y < 935 * i + k then hL h 162 (y - 935 * i) else hL h x y := rfl
theorem exH_0 (h : mH) (i : Nat) : exH h i 0 = h := by
  obtain ⟨h1, h2, h3, h4, h5⟩ := h
  show (_, _, _, _, _) = (_, _, _, _, _)
  congr 3
  congr 1
  funext x y
  show (if x = 162 ∧ y < 0 then _ else if x = 166 ∧ 935 * i ≤ y ∧ y < 935 * i + 0 then _ else h4 x y) = h4 x y
  rw [if_neg (by omega), if_neg (by omega)]
theorem exH_succ (h : mH) (i k : Nat) : sL (sL (exH h i k) 166 (935 * i + k) (hL (exH h i k) 162 k)) 162 k (hL (exH h i k) 166 (935 * i + k)) = exH h i (k + 1) := by
  rw [hL_exH, hL_exH, if_neg (by omega), if_neg (by omega), if_neg (by omega), if_neg (by omega)]
  unfold sL exH
  congr 3
  congr 1
  funext x y
  show (if x = 162 ∧ y = k then hL h 166 (935 * i + k) else if x = 166 ∧ y = 935 * i + k then hL h 162 k else if x = 162 ∧ y < k then hL h 166 (935 * i + y) else if x = 166 ∧ 935 * i ≤ y ∧ y < 935 * i + k then hL h 162 (y - 935 * i) else hL h x y) = if x = 162 ∧ y < k + 1 then hL h 166 (935 * i + y) else if x = 166 ∧ 935 * i ≤ y ∧ y < 935 * i + (k + 1) then hL h 162 (y - 935 * i) else hL h x y
  by_cases h1 : x = 162 ∧ y = k
  · rw [if_pos h1, if_pos (by omega), h1.2]
  · rw [if_neg h1]
    by_cases h2 : x = 166 ∧ y = 935 * i + k
    · rw [if_pos h2, if_neg (by omega), if_pos (by omega), h2.2, show 935 * i + k - 935 * i = k by omega]
    · rw [if_neg h2]
      by_cases h3 : x = 162 ∧ y < k
      · rw [if_pos h3, if_pos (by omega)]
      · have h5 : ¬ (x = 162 ∧ y < k + 1) := by omega
        rw [if_neg h3, if_neg h5]
        by_cases h4 : x = 166 ∧ 935 * i ≤ y ∧ y < 935 * i + k
        · rw [if_pos h4, if_pos (by omega)]
        · have h6 : ¬ (x = 166 ∧ 935 * i ≤ y ∧ y < 935 * i + (k + 1)) := by omega
          rw [if_neg h4, if_neg h6]
set_option maxRecDepth 20000 in
theorem pX12_exchanges {h : mH} {Q : Option Value → mH → Prop} {i : Nat} (hm : mS h) (hi : i < 16) (hq : Q none (exH h i 935)) : Wp mX12_exchanges 0 0 0 [some (.ref 153), some (.int (nI i)), none, none, none] [] h Q := by
  have hloop : ∀ (n k : Nat) (x3 : Option Value), k ≤ 935 → 935 < k + n → Wp mX12_exchanges 0 0 2 [some (.ref 153), some (.int (nI i)), some (.int (nI k)), x3, none] [] (exH h i k) Q := by
    intro n
    induction n with
    | zero => intros; omega
    | succ n ih =>
      intro k x3 hk hmz
      have hm1 : mS (exH h i k) := hm
      refine wp_iload_n dX12_exchanges_2 rfl rfl ?_
      refine wp_sipush (v := (nI 935)) dX12_exchanges_3 (by decide +kernel) ?_
      refine wp_icmp_geN dX12_exchanges_6 rfl rfl ⟨by omega, by omega⟩ (fun c1 => ?_) (fun c1 => ?_)
      · refine wp_vreturn dX12_exchanges_53 rfl ?_
        have e9 : k = 935 := by omega
        subst e9
        exact hq
      · refine wp_aload_n dX12_exchanges_9 rfl rfl ?_
        refine wp_getR dX12_exchanges_10 lX12_55 rfl (mO hm1) (mR_past hm1) ?_
        refine wp_sipush (v := (nI 935)) dX12_exchanges_13 (by decide +kernel) ?_
        refine wp_iload_n dX12_exchanges_16 rfl rfl ?_
        refine wp_imul dX12_exchanges_17 ?_
        refine wp_iload_n dX12_exchanges_18 rfl rfl ?_
        refine wp_iadd dX12_exchanges_19 ?_
        refine wp_laldN dX12_exchanges_20 (mA_past hm1) (isN_add (isN_mul rfl rfl) rfl) ⟨by omega, by decide⟩ ?_
        refine wp_lstore_n (ls1 := [_, _, _, some _, _]) dX12_exchanges_21 rfl (by decide) rfl ?_
        refine wp_aload_n dX12_exchanges_22 rfl rfl ?_
        refine wp_getR dX12_exchanges_23 lX12_55 rfl (mO hm1) (mR_past hm1) ?_
        refine wp_sipush (v := (nI 935)) dX12_exchanges_26 (by decide +kernel) ?_
        refine wp_iload_n dX12_exchanges_29 rfl rfl ?_
        refine wp_imul dX12_exchanges_30 ?_
        refine wp_iload_n dX12_exchanges_31 rfl rfl ?_
        refine wp_iadd dX12_exchanges_32 ?_
        refine wp_aload_n dX12_exchanges_33 rfl rfl ?_
        refine wp_getR dX12_exchanges_34 lX12_43 rfl (mO hm1) (mR_now hm1) ?_
        refine wp_iload_n dX12_exchanges_37 rfl rfl ?_
        refine wp_laldN dX12_exchanges_38 (mA_now hm1) rfl ⟨by omega, by decide⟩ ?_
        refine wp_lastN dX12_exchanges_39 (mA_past hm1) (isN_add (isN_mul rfl rfl) rfl) ⟨by omega, by decide⟩ ?_
        refine wp_aload_n dX12_exchanges_40 rfl rfl ?_
        refine wp_getR dX12_exchanges_41 lX12_43 rfl (mO hm1) (mR_now hm1) ?_
        refine wp_iload_n dX12_exchanges_44 rfl rfl ?_
        refine wp_lload_n dX12_exchanges_45 rfl rfl ?_
        refine wp_lastN dX12_exchanges_46 (mA_now hm1) rfl ⟨by omega, by decide⟩ ?_
        refine wp_iinc1 (ls1 := [_, _, some _, _, _]) dX12_exchanges_47 rfl (by decide) rfl ?_
        refine wp_goto dX12_exchanges_50 ?_
        rw [exH_succ]
        exact ih (k + 1) _ (by omega) (by omega)
  refine wp_iconst (v := (nI 0)) dX12_exchanges_0 (by decide +kernel) ?_
  refine wp_istore_n (ls1 := [_, _, some _, _, _]) dX12_exchanges_1 rfl (by decide) rfl ?_
  have hl := hloop 936 0 none (by omega) (by omega)
  rw [exH_0] at hl
  exact hl
set_option maxRecDepth 20000 in
theorem pX12_undo {h : mH} {Q : Option Value → mH → Prop} {a u : Nat} (hm : mS h) (ha16 : a ≤ 16) (hu16 : u ≤ 16) (ha : hI h 153 28 = nI a) (hu : hI h 153 29 = nI u) (h0 : a = 0 → Q (some (.int (nI 0))) h) (h1 : 0 < a → Q (some (.int (nI 1))) (exH (sI (sI h 153 28 (nI (a - 1))) 153 29 (nI (u + 1))) (a - 1) 935)) : Wp mX12_undo 1 24 0 [some (.ref 153)] [] h Q := by
  refine wp_aload_n dX12_undo_0 rfl rfl ?_
  refine wp_getI dX12_undo_1 lX12_249 rfl (mO hm) ?_
  refine wp_if_ne dX12_undo_4 (fun c1 => ?_) (fun c1 => ?_)
  · have hpos : 0 < a := by
      rcases Nat.eq_zero_or_pos a with q | q
      · exact absurd (by rw [ha, q]; rfl) c1
      · exact q
    refine wp_aload_n dX12_undo_9 rfl rfl ?_
    refine wp_dup dX12_undo_10 rfl ?_
    refine wp_getI dX12_undo_11 lX12_249 rfl (mO hm) ?_
    refine wp_iconst (v := (nI 1)) dX12_undo_14 (by decide +kernel) ?_
    refine wp_isub dX12_undo_15 ?_
    refine wp_putIN dX12_undo_16 lX12_249 rfl rfl (Or.inl rfl) (mO hm) (isN_sub ha rfl (by omega)) ?_
    refine wp_aload_n dX12_undo_19 rfl rfl ?_
    refine wp_dup dX12_undo_20 rfl ?_
    refine wp_getI dX12_undo_21 lX12_252 rfl (mO hm) ?_
    refine wp_iconst (v := (nI 1)) dX12_undo_24 (by decide +kernel) ?_
    refine wp_iadd dX12_undo_25 ?_
    refine wp_putIN dX12_undo_26 lX12_252 rfl rfl (Or.inl rfl) (mO hm) (isN_add hu rfl) ?_
    refine wp_aload_n dX12_undo_29 rfl rfl ?_
    refine wp_aload_n dX12_undo_30 rfl rfl ?_
    refine wp_getI dX12_undo_31 lX12_249 rfl (mO hm) ?_
    rw [hI_sI, if_neg (by decide), hI_sI, if_pos ⟨rfl, rfl⟩]
    refine wp_cV1 0 0 [some _, some _, none, none, none] dX12_undo_34 tX12_exchanges rfl (by decide) nX12_exchanges vX12_exchanges lX12_292 ⟨by decide, by decide⟩ (Nat.le_of_ble_eq_true rfl) (mO hm) (Nat.le_of_ble_eq_true rfl) rfl ?_
    refine pX12_exchanges (i := a - 1) hm (by omega) ?_
    intro _ _
    refine wp_iconst (v := (nI 1)) dX12_undo_37 (by decide +kernel) ?_
    refine wp_zreturn dX12_undo_38 rfl (Or.inr rfl) ?_
    exact h1 hpos
  · refine wp_iconst (v := (nI 0)) dX12_undo_7 (by decide +kernel) ?_
    refine wp_zreturn dX12_undo_8 rfl (Or.inl rfl) ?_
    exact h0 (by rw [ha] at c1; exact (nI_eq (by omega) (by decide)).mp (by rw [c1]; rfl))
