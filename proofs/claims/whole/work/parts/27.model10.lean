/-! ===== what calls answer: reading ===== -/
def ix (x : Int32) (n : Nat) : Option Nat := if 0 ≤ x.toInt ∧ x.toInt < (n : Int) then some x.toInt.toNat else none
theorem ix_nI {j n : Nat} (hj : j < n) (hn : n < 2147483648) : ix (nI j) n = some j := by
  unfold ix
  rw [nI_toInt (by omega), if_pos (by omega)]
  rfl
theorem ix_some {x : Int32} {n j : Nat} (h : ix x n = some j) : j < n ∧ x = nI j := by
  unfold ix at h
  split at h
  · rename_i h1
    cases h
    refine ⟨by omega, ?_⟩
    have h2 := Int32.toInt_lt x
    rw [← Int32.toInt_inj, nI_toInt (by omega)]
    omega
  · cases h
theorem ix_none {x : Int32} {n : Nat} (hn : n < 2147483648) (h : ∀ j, j < n → x = nI j → False) : ix x n = none := by
  cases e : ix x n with
  | none => rfl
  | some j => exact (h j (ix_some e).1 (ix_some e).2).elim
theorem ix_cases {x : Int32} {n : Nat} (hn : n < 2147483648) : ix x n = none ∨ ∃ j, j < n ∧ x = nI j := by
  cases e : ix x n with
  | none => exact Or.inl rfl
  | some j => exact Or.inr ⟨j, ix_some e⟩
theorem ix_out {x : Int32} {n : Nat} (h : ix x (n + 1) = none) : x.toInt < 0 ∨ (n : Int) < x.toInt := by
  unfold ix at h
  split at h
  · cases h
  · omega
abbrev pwS : Nat → Nat → Prop := mP [2, 3, 4, 5, 6, 7, 8, 11, 19, 20, 24, 32, 35, 41, 47, 48, 50, 54, 60, 61, 62] [155, 156, 157, 158, 160, 163, 164, 165, 167, 168, 169, 170, 171, 172, 173, 174, 175, 176, 177, 178, 179, 180, 181, 182, 183, 184, 185, 186, 187, 188, 189]
def vFault (tf tl x : Int32) : Int32 := if x = 0 then tf else if x = nI 1 then tl else -1
def vTokens (r : Nat → Int64) (x : Int32) : Int32 := match ix x (rP r) with
  | some p => nI (rT r p)
  | none => -1
def vToken (r : Nat → Int64) (x y what : Int32) : Int32 := match ix x (rP r) with
  | some p => match ix y (rT r p) with
    | some k => if what = 0 then nI (kd (rW r p k)) else if what = nI 1 then nI ((uqA r).idxOf (rW r p k)) else if what = nI 2 then nI (bN (rW r p k)) else -1
    | none => -1
  | none => -1
def vMarked (r : Nat → Int64) (F : Nat) (x y i what : Int32) : Int32 := match ix x (rP r) with
  | some p => match ix y F with
    | some f => if i = -1 then nI (rM r f p) else match ix i (rM r f p) with
      | some k => if what = 0 then nI (rA r f p k) else if what = nI 1 then nI (rB r f p k) else -1
      | none => -1
    | none => -1
  | none => -1
def vField (r : Nat → Int64) (F : Nat) (pa my : Nat → Int32) (y what : Int32) : Int32 := match ix y F with
  | some f => match ix what 8 with
    | some 0 => pa f
    | some 1 => my f
    | some 2 => exS r f (rP r)
    | some 3 => nI (lrN r f)
    | some 4 => if r (655 + 70 * f) = 1 then nI (lrS r f 0) else -1
    | some 5 => if r (655 + 70 * f) = 1 then nI (lrS r f 1) else -1
    | some 6 => nI (lrS r f 2)
    | some 7 => nI (lrS r f 3)
    | _ => -1
  | none => -1
def itC (x : Int32) : Nat := if x = -1 then 0 else if x < nI 3 then 3 else 2
def vRule (r : Nat → Int64) (F : Nat) (y k what : Int32) : Int32 := match ix y F with
  | some f => match ix k (lrN r f) with
    | some k => match ix what 5 with
      | some w => if w < 4 then lrI r f k w else nI (itC (lrI r f k 0) + itC (lrI r f k 1) + itC (lrI r f k 2) + itC (lrI r f k 3))
      | none => -2
    | none => -2
  | none => -2
def vAbout (r : Nat → Int64) (F a u t : Nat) (what : Int32) : Int32 := match ix what 8 with
  | some 0 => nI F
  | some 1 => nI (rP r)
  | some 2 => nI (uqA r).length
  | some 3 => nI (sumF r (rP r) F)
  | some 4 => leS r F
  | some 5 => nI a
  | some 6 => nI u
  | some 7 => nI t
  | _ => -1
/-- an item: none, a kind, a token's number -/
def itK (r : Nat → Int64) (x : Int32) : Bool := decide (-1 ≤ x) && decide (x ≤ nI (2 + (uqA r).length))
def vTries (r : Nat → Int64) (F : Nat) (pa my : Nat → Int32) (x y far near sec stop : Int32) : Int32 := match ix y F with
  | some f => match ix x (rP r) with
    | some p => if 0 < rM r f p then (if itK r far = true then if itK r near = true then if itK r sec = true then if itK r stop = true then if near = -1 ∧ ¬ sec = -1 then -1 else nI (tryV r pa my f p far near sec stop) else -1 else -1 else -1 else -1) else -1
    | none => -1
  | none => -1
set_option maxRecDepth 20000 in
theorem pX12_fault {h : mH} {Q : Option Value → mH → Prop} {x tf tl : Int32} (hm : mS h) (h9 : hI h 153 9 = tf) (h10 : hI h 153 10 = tl) (hq : Q (some (.int (vFault tf tl x))) h) : Wp mX12_fault 0 0 0 [some (.ref 153), some (.int x)] [] h Q := by
  refine wp_iload_n dX12_fault_0 rfl rfl ?_
  refine wp_if_ne dX12_fault_1 (fun c1 => ?_) (fun c1 => ?_)
  · refine wp_iload_n dX12_fault_11 rfl rfl ?_
    refine wp_iconst (v := (nI 1)) dX12_fault_12 (by decide +kernel) ?_
    refine wp_icmp_ne dX12_fault_13 (fun c2 => ?_) (fun c2 => ?_)
    · refine wp_iconst (v := (-1)) dX12_fault_23 (by decide +kernel) ?_
      refine wp_ireturn dX12_fault_24 rfl ?_
      simp only [vFault, *, if_true, if_false, reduceCtorEq, Nat.lt_irrefl, and_self, not_true_eq_false, not_false_eq_true, and_true, true_and, false_and, and_false, ite_self] at hq
      exact hq
    · refine wp_aload_n dX12_fault_16 rfl rfl ?_
      refine wp_getIV dX12_fault_17 lX12_17 rfl (mO hm) h10 ?_
      refine wp_goto dX12_fault_20 ?_
      refine wp_ireturn dX12_fault_24 rfl ?_
      simp only [vFault, *, if_true, if_false, reduceCtorEq, Nat.lt_irrefl, and_self, not_true_eq_false, not_false_eq_true, and_true, true_and, false_and, and_false, ite_self] at hq
      exact hq
  · refine wp_aload_n dX12_fault_4 rfl rfl ?_
    refine wp_getIV dX12_fault_5 lX12_203 rfl (mO hm) h9 ?_
    refine wp_goto dX12_fault_8 ?_
    refine wp_ireturn dX12_fault_24 rfl ?_
    simp only [vFault, *, if_true, if_false, reduceCtorEq, Nat.lt_irrefl, and_self, not_true_eq_false, not_false_eq_true, and_true, true_and, false_and, and_false, ite_self] at hq
    exact hq
set_option maxRecDepth 20000 in
theorem pX12_tokens {h : mH} {Q : Option Value → mH → Prop} {r : Nat → Int64} {F : Nat} {pa my : Nat → Int32} {x : Int32} (hc : mC h r F pa my) (hd : sOK r F pa my) (hq : Q (some (.int (vTokens r x))) h) : Wp mX12_tokens 2 43 0 [some (.ref 153), some (.int x)] [] h Q := by
  have hF4 := hd.f4
  have hP6 := hd.w.1.2
  refine wp_aload_n dX12_tokens_0 rfl rfl ?_
  refine wp_iload_n dX12_tokens_1 rfl rfl ?_
  refine wp_cV1 1 22 [some _, some _] dX12_tokens_2 tX12_isPage rfl (by decide) nX12_isPage vX12_isPage lX12_286 ⟨by decide, by decide⟩ (Nat.le_of_ble_eq_true rfl) (mO hc.1) (Nat.le_of_ble_eq_true rfl) rfl ?_
  refine pX12_isPage' hc hd (fun j1 hj1 ej1 => ?_) (fun nj1 => ?_)
  · subst ej1
    have xs1 := ix_nI hj1 (by omega)
    intro _ _
    refine wp_if_eq dX12_tokens_5 (fun q => absurd q (by decide +kernel)) (fun _ => ?_)
    refine wp_aload_n dX12_tokens_8 rfl rfl ?_
    refine wp_iload_n dX12_tokens_9 rfl rfl ?_
    refine wp_cV1 0 0 [some _, some _] dX12_tokens_10 tX12_tokensOf rfl (by decide) nX12_tokensOf vX12_tokensOf lX12_273 ⟨by decide, by decide⟩ (Nat.le_of_ble_eq_true rfl) (mO hc.1) (Nat.le_of_ble_eq_true rfl) rfl ?_
    refine pX12_tokensOf' hc hd (by omega) ?_
    intro _ _
    refine wp_goto dX12_tokens_13 ?_
    refine wp_ireturn dX12_tokens_17 rfl ?_
    simp only [vTokens, *, if_true, if_false, reduceCtorEq, Nat.lt_irrefl, and_self, not_true_eq_false, not_false_eq_true, and_true, true_and, false_and, and_false, ite_self] at hq
    exact hq
  · have xn1 := ix_none (by omega) nj1
    intro _ _
    refine wp_if_eq dX12_tokens_5 (fun _ => ?_) (fun q => absurd q (by decide +kernel))
    refine wp_iconst (v := (-1)) dX12_tokens_16 (by decide +kernel) ?_
    refine wp_ireturn dX12_tokens_17 rfl ?_
    simp only [vTokens, *, if_true, if_false, reduceCtorEq, Nat.lt_irrefl, and_self, not_true_eq_false, not_false_eq_true, and_true, true_and, false_and, and_false, ite_self] at hq
    exact hq
set_option maxRecDepth 20000 in
theorem pX12_token {h : mH} {Q : Option Value → mH → Prop} {r : Nat → Int64} {F : Nat} {pa my : Nat → Int32} {x y what : Int32} (hc : mC h r F pa my) (hd : sOK r F pa my) (hq : ∀ h', mFr pwS h h' → Q (some (.int (vToken r x y what))) h') : Wp mX12_token 4 88 0 [some (.ref 153), some (.int x), some (.int y), some (.int what)] [] h Q := by
  have hF4 := hd.f4
  have hP6 := hd.w.1.2
  refine wp_aload_n dX12_token_0 rfl rfl ?_
  refine wp_iload_n dX12_token_1 rfl rfl ?_
  refine wp_cV1 1 22 [some _, some _] dX12_token_2 tX12_isPage rfl (by decide) nX12_isPage vX12_isPage lX12_286 ⟨by decide, by decide⟩ (Nat.le_of_ble_eq_true rfl) (mO hc.1) (Nat.le_of_ble_eq_true rfl) rfl ?_
  refine pX12_isPage' hc hd (fun j1 hj1 ej1 => ?_) (fun nj1 => ?_)
  · subst ej1
    have xs1 := ix_nI hj1 (by omega)
    intro _ _
    refine wp_if_eq dX12_token_5 (fun q => absurd q (by decide +kernel)) (fun _ => ?_)
    refine wp_iload_n dX12_token_8 rfl rfl ?_
    refine wp_iconst (v := (nI 0)) dX12_token_9 (by decide +kernel) ?_
    refine wp_aload_n dX12_token_10 rfl rfl ?_
    refine wp_iload_n dX12_token_11 rfl rfl ?_
    refine wp_cV1 0 0 [some _, some _] dX12_token_12 tX12_tokensOf rfl (by decide) nX12_tokensOf vX12_tokensOf lX12_273 ⟨by decide, by decide⟩ (Nat.le_of_ble_eq_true rfl) (mO hc.1) (Nat.le_of_ble_eq_true rfl) rfl ?_
    have hT := (hd.w.2.1 j1 (by omega)).2
    refine pX12_tokensOf' hc hd (by omega) ?_
    intro _ _
    refine wp_iconst (v := (nI 1)) dX12_token_15 (by decide +kernel) ?_
    refine wp_isub dX12_token_16 ?_
    refine wp_cS3 0 0 [some _, some _, some _] dX12_token_17 tX12_isIn sX12_isIn lX12_147 ⟨by decide, by decide⟩ (Nat.le_of_ble_eq_true rfl) (Nat.le_of_ble_eq_true rfl) rfl ?_
    refine pX12_isIn (fun i2 => ?_) (fun i2 => ?_)
    · obtain ⟨j2, hj2, ej2⟩ := (ixN (by omega)).mp i2
      subst ej2
      have xs2 := ix_nI hj2 (by omega)
      intro _ _
      refine wp_if_ne dX12_token_20 (fun _ => ?_) (fun q => absurd q (by decide +kernel))
      refine wp_aload_n dX12_token_25 rfl rfl ?_
      refine wp_cV0 3 64 [some _, none, none, none, none] dX12_token_26 tX12_laysNumbers rfl (by decide) nX12_laysNumbers vX12_laysNumbers lX12_289 ⟨by decide, by decide⟩ (Nat.le_of_ble_eq_true rfl) (mO hc.1) (Nat.le_of_ble_eq_true rfl) rfl ?_
      refine pX12_laysNumbers' hc hd (fun hh3 f3 n3 => ?_)
      intro _ _
      have hc3 := hc.fr f3 (by decide) (by decide) (by decide) (by decide) (by decide)
      refine wp_iload_n dX12_token_29 rfl rfl ?_
      refine wp_if_ne dX12_token_30 (fun c3 => ?_) (fun c3 => ?_)
      · refine wp_iload_n dX12_token_47 rfl rfl ?_
        refine wp_iconst (v := (nI 1)) dX12_token_48 (by decide +kernel) ?_
        refine wp_icmp_ne dX12_token_49 (fun c4 => ?_) (fun c4 => ?_)
        · refine wp_iload_n dX12_token_66 rfl rfl ?_
          refine wp_iconst (v := (nI 2)) dX12_token_67 (by decide +kernel) ?_
          refine wp_icmp_ne dX12_token_68 (fun c5 => ?_) (fun c5 => ?_)
          · refine wp_iconst (v := (-1)) dX12_token_83 (by decide +kernel) ?_
            refine wp_ireturn dX12_token_84 rfl ?_
            simp only [vToken, *, if_true, if_false, reduceCtorEq, Nat.lt_irrefl, and_self, not_true_eq_false, not_false_eq_true, and_true, true_and, false_and, and_false, ite_self] at hq
            exact hq _ (f3.up (by decide) (by decide))
          · refine wp_aload_n dX12_token_71 rfl rfl ?_
            refine wp_iload_n dX12_token_72 rfl rfl ?_
            refine wp_iload_n dX12_token_73 rfl rfl ?_
            refine wp_cV2 0 0 [some _, some _, some _] dX12_token_74 tX12_wordAt rfl (by decide) nX12_wordAt vX12_wordAt lX12_276 ⟨by decide, by decide⟩ (Nat.le_of_ble_eq_true rfl) (mO hc3.1) (Nat.le_of_ble_eq_true rfl) rfl ?_
            refine pX12_wordAt' hc3 hd (by omega) (by omega) ?_
            intro _ _
            refine wp_cS1 0 0 [some _, none, none] dX12_token_77 tX12_bytesOf sX12_bytesOf lX12_261 ⟨by decide, by decide⟩ (Nat.le_of_ble_eq_true rfl) (Nat.le_of_ble_eq_true rfl) rfl ?_
            refine pX12_bytesOf ?_
            intro _ _
            refine wp_goto dX12_token_80 ?_
            refine wp_ireturn dX12_token_84 rfl ?_
            simp only [vToken, *, if_true, if_false, reduceCtorEq, Nat.lt_irrefl, and_self, not_true_eq_false, not_false_eq_true, and_true, true_and, false_and, and_false, ite_self] at hq
            exact hq _ (f3.up (by decide) (by decide))
        · refine wp_aload_n dX12_token_52 rfl rfl ?_
          refine wp_getR dX12_token_53 lX12_49 rfl (mO hc3.1) (mR_numbers hc3.1) ?_
          refine wp_bipush (v := (nI 40)) dX12_token_56 (by decide +kernel) ?_
          refine wp_iload_n dX12_token_58 rfl rfl ?_
          refine wp_imul dX12_token_59 ?_
          refine wp_iload_n dX12_token_60 rfl rfl ?_
          refine wp_iadd dX12_token_61 ?_
          refine wp_ialdV dX12_token_62 (mA_numbers hc3.1) (isN_add (isN_mul rfl rfl) rfl) ⟨by omega, by decide⟩ (n3.2.2 _ _ (by omega) (by omega)).2.1 ?_
          refine wp_goto dX12_token_63 ?_
          refine wp_ireturn dX12_token_84 rfl ?_
          simp only [vToken, *, if_true, if_false, reduceCtorEq, Nat.lt_irrefl, and_self, not_true_eq_false, not_false_eq_true, and_true, true_and, false_and, and_false, ite_self] at hq
          exact hq _ (f3.up (by decide) (by decide))
      · refine wp_aload_n dX12_token_33 rfl rfl ?_
        refine wp_getR dX12_token_34 lX12_52 rfl (mO hc3.1) (mR_kinds hc3.1) ?_
        refine wp_bipush (v := (nI 40)) dX12_token_37 (by decide +kernel) ?_
        refine wp_iload_n dX12_token_39 rfl rfl ?_
        refine wp_imul dX12_token_40 ?_
        refine wp_iload_n dX12_token_41 rfl rfl ?_
        refine wp_iadd dX12_token_42 ?_
        refine wp_ialdV dX12_token_43 (mA_kinds hc3.1) (isN_add (isN_mul rfl rfl) rfl) ⟨by omega, by decide⟩ (n3.2.2 _ _ (by omega) (by omega)).2.2 ?_
        refine wp_goto dX12_token_44 ?_
        refine wp_ireturn dX12_token_84 rfl ?_
        simp only [vToken, *, if_true, if_false, reduceCtorEq, Nat.lt_irrefl, and_self, not_true_eq_false, not_false_eq_true, and_true, true_and, false_and, and_false, ite_self] at hq
        exact hq _ (f3.up (by decide) (by decide))
    · have xn2 := ix_none (by omega) (fun j hj ej => i2 ((ixN (by omega)).mpr ⟨j, hj, ej⟩))
      intro _ _
      refine wp_if_ne dX12_token_20 (fun q => absurd q (by decide +kernel)) (fun _ => ?_)
      refine wp_iconst (v := (-1)) dX12_token_23 (by decide +kernel) ?_
      refine wp_ireturn dX12_token_24 rfl ?_
      simp only [vToken, *, if_true, if_false, reduceCtorEq, Nat.lt_irrefl, and_self, not_true_eq_false, not_false_eq_true, and_true, true_and, false_and, and_false, ite_self] at hq
      exact hq _ mFr.rf
  · have xn1 := ix_none (by omega) nj1
    intro _ _
    refine wp_if_eq dX12_token_5 (fun _ => ?_) (fun q => absurd q (by decide +kernel))
    refine wp_iconst (v := (-1)) dX12_token_23 (by decide +kernel) ?_
    refine wp_ireturn dX12_token_24 rfl ?_
    simp only [vToken, *, if_true, if_false, reduceCtorEq, Nat.lt_irrefl, and_self, not_true_eq_false, not_false_eq_true, and_true, true_and, false_and, and_false, ite_self] at hq
    exact hq _ mFr.rf
set_option maxRecDepth 20000 in
theorem pX12_marked {h : mH} {Q : Option Value → mH → Prop} {r : Nat → Int64} {F : Nat} {pa my : Nat → Int32} {x y i what : Int32} (hc : mC h r F pa my) (hd : sOK r F pa my) (hq : Q (some (.int (vMarked r F x y i what))) h) : Wp mX12_marked 2 44 0 [some (.ref 153), some (.int x), some (.int y), some (.int i), some (.int what)] [] h Q := by
  have hF4 := hd.f4
  have hP6 := hd.w.1.2
  refine wp_aload_n dX12_marked_0 rfl rfl ?_
  refine wp_iload_n dX12_marked_1 rfl rfl ?_
  refine wp_cV1 1 22 [some _, some _] dX12_marked_2 tX12_isPage rfl (by decide) nX12_isPage vX12_isPage lX12_286 ⟨by decide, by decide⟩ (Nat.le_of_ble_eq_true rfl) (mO hc.1) (Nat.le_of_ble_eq_true rfl) rfl ?_
  refine pX12_isPage' hc hd (fun j1 hj1 ej1 => ?_) (fun nj1 => ?_)
  · subst ej1
    have xs1 := ix_nI hj1 (by omega)
    intro _ _
    refine wp_if_eq dX12_marked_5 (fun q => absurd q (by decide +kernel)) (fun _ => ?_)
    refine wp_aload_n dX12_marked_8 rfl rfl ?_
    refine wp_iload_n dX12_marked_9 rfl rfl ?_
    refine wp_cV1 1 22 [some _, some _] dX12_marked_10 tX12_isField rfl (by decide) nX12_isField vX12_isField lX12_299 ⟨by decide, by decide⟩ (Nat.le_of_ble_eq_true rfl) (mO hc.1) (Nat.le_of_ble_eq_true rfl) rfl ?_
    refine pX12_isField' hc hd (fun j2 hj2 ej2 => ?_) (fun nj2 => ?_)
    · subst ej2
      have xs2 := ix_nI hj2 (by omega)
      intro _ _
      refine wp_if_ne dX12_marked_13 (fun _ => ?_) (fun q => absurd q (by decide +kernel))
      refine wp_iload_n dX12_marked_18 rfl rfl ?_
      refine wp_iconst (v := (-1)) dX12_marked_19 (by decide +kernel) ?_
      refine wp_icmp_ne dX12_marked_20 (fun c3 => ?_) (fun c3 => ?_)
      · refine wp_iload_n dX12_marked_30 rfl rfl ?_
        refine wp_iconst (v := (nI 0)) dX12_marked_31 (by decide +kernel) ?_
        refine wp_aload_n dX12_marked_32 rfl rfl ?_
        refine wp_iload_n dX12_marked_33 rfl rfl ?_
        refine wp_iload_n dX12_marked_34 rfl rfl ?_
        refine wp_cV2 1 21 [some _, some _, some _] dX12_marked_35 tX12_partsOf rfl (by decide) nX12_partsOf vX12_partsOf lX12_302 ⟨by decide, by decide⟩ (Nat.le_of_ble_eq_true rfl) (mO hc.1) (Nat.le_of_ble_eq_true rfl) rfl ?_
        have hM := (hd.w.2.2 _ _ (show j2 < 4 by omega) (show j1 < 6 by omega)).1.2
        refine pX12_partsOf' hc hd (by omega) (by omega) ?_
        intro _ _
        refine wp_iconst (v := (nI 1)) dX12_marked_38 (by decide +kernel) ?_
        refine wp_isub dX12_marked_39 ?_
        refine wp_cS3 0 0 [some _, some _, some _] dX12_marked_40 tX12_isIn sX12_isIn lX12_147 ⟨by decide, by decide⟩ (Nat.le_of_ble_eq_true rfl) (Nat.le_of_ble_eq_true rfl) rfl ?_
        refine pX12_isIn (fun i3 => ?_) (fun i3 => ?_)
        · obtain ⟨j3, hj3, ej3⟩ := (ixN (by omega)).mp i3
          subst ej3
          have xs3 := ix_nI hj3 (by omega)
          intro _ _
          refine wp_if_ne dX12_marked_43 (fun _ => ?_) (fun q => absurd q (by decide +kernel))
          refine wp_iload dX12_marked_48 rfl ?_
          refine wp_if_ne dX12_marked_50 (fun c5 => ?_) (fun c5 => ?_)
          · refine wp_iload dX12_marked_63 rfl ?_
            refine wp_iconst (v := (nI 1)) dX12_marked_65 (by decide +kernel) ?_
            refine wp_icmp_ne dX12_marked_66 (fun c6 => ?_) (fun c6 => ?_)
            · refine wp_iconst (v := (-1)) dX12_marked_79 (by decide +kernel) ?_
              refine wp_ireturn dX12_marked_80 rfl ?_
              simp only [vMarked, *, if_true, if_false, reduceCtorEq, Nat.lt_irrefl, and_self, not_true_eq_false, not_false_eq_true, and_true, true_and, false_and, and_false, ite_self] at hq
              exact hq
            · refine wp_aload_n dX12_marked_69 rfl rfl ?_
              refine wp_iload_n dX12_marked_70 rfl rfl ?_
              refine wp_iload_n dX12_marked_71 rfl rfl ?_
              refine wp_iload_n dX12_marked_72 rfl rfl ?_
              refine wp_cV3 1 21 [some _, some _, some _, some _] dX12_marked_73 tX12_toOf rfl (by decide) nX12_toOf vX12_toOf lX12_305 ⟨by decide, by decide⟩ (Nat.le_of_ble_eq_true rfl) (mO hc.1) (Nat.le_of_ble_eq_true rfl) rfl ?_
              refine pX12_toOf' hc hd (by omega) (by omega) (by omega) ?_
              intro _ _
              refine wp_goto dX12_marked_76 ?_
              refine wp_ireturn dX12_marked_80 rfl ?_
              simp only [vMarked, *, if_true, if_false, reduceCtorEq, Nat.lt_irrefl, and_self, not_true_eq_false, not_false_eq_true, and_true, true_and, false_and, and_false, ite_self] at hq
              exact hq
          · refine wp_aload_n dX12_marked_53 rfl rfl ?_
            refine wp_iload_n dX12_marked_54 rfl rfl ?_
            refine wp_iload_n dX12_marked_55 rfl rfl ?_
            refine wp_iload_n dX12_marked_56 rfl rfl ?_
            refine wp_cV3 1 21 [some _, some _, some _, some _] dX12_marked_57 tX12_fromOf rfl (by decide) nX12_fromOf vX12_fromOf lX12_309 ⟨by decide, by decide⟩ (Nat.le_of_ble_eq_true rfl) (mO hc.1) (Nat.le_of_ble_eq_true rfl) rfl ?_
            refine pX12_fromOf' hc hd (by omega) (by omega) (by omega) ?_
            intro _ _
            refine wp_goto dX12_marked_60 ?_
            refine wp_ireturn dX12_marked_80 rfl ?_
            simp only [vMarked, *, if_true, if_false, reduceCtorEq, Nat.lt_irrefl, and_self, not_true_eq_false, not_false_eq_true, and_true, true_and, false_and, and_false, ite_self] at hq
            exact hq
        · have xn3 := ix_none (by omega) (fun j hj ej => i3 ((ixN (by omega)).mpr ⟨j, hj, ej⟩))
          intro _ _
          refine wp_if_ne dX12_marked_43 (fun q => absurd q (by decide +kernel)) (fun _ => ?_)
          refine wp_iconst (v := (-1)) dX12_marked_46 (by decide +kernel) ?_
          refine wp_ireturn dX12_marked_47 rfl ?_
          simp only [vMarked, *, if_true, if_false, reduceCtorEq, Nat.lt_irrefl, and_self, not_true_eq_false, not_false_eq_true, and_true, true_and, false_and, and_false, ite_self] at hq
          exact hq
      · refine wp_aload_n dX12_marked_23 rfl rfl ?_
        refine wp_iload_n dX12_marked_24 rfl rfl ?_
        refine wp_iload_n dX12_marked_25 rfl rfl ?_
        refine wp_cV2 1 21 [some _, some _, some _] dX12_marked_26 tX12_partsOf rfl (by decide) nX12_partsOf vX12_partsOf lX12_302 ⟨by decide, by decide⟩ (Nat.le_of_ble_eq_true rfl) (mO hc.1) (Nat.le_of_ble_eq_true rfl) rfl ?_
        have hM := (hd.w.2.2 _ _ (show j2 < 4 by omega) (show j1 < 6 by omega)).1.2
        refine pX12_partsOf' hc hd (by omega) (by omega) ?_
        intro _ _
        refine wp_ireturn dX12_marked_29 rfl ?_
        simp only [vMarked, *, if_true, if_false, reduceCtorEq, Nat.lt_irrefl, and_self, not_true_eq_false, not_false_eq_true, and_true, true_and, false_and, and_false, ite_self] at hq
        exact hq
    · have xn2 := ix_none (by omega) nj2
      intro _ _
      refine wp_if_ne dX12_marked_13 (fun q => absurd q (by decide +kernel)) (fun _ => ?_)
      refine wp_iconst (v := (-1)) dX12_marked_16 (by decide +kernel) ?_
      refine wp_ireturn dX12_marked_17 rfl ?_
      simp only [vMarked, *, if_true, if_false, reduceCtorEq, Nat.lt_irrefl, and_self, not_true_eq_false, not_false_eq_true, and_true, true_and, false_and, and_false, ite_self] at hq
      exact hq
  · have xn1 := ix_none (by omega) nj1
    intro _ _
    refine wp_if_eq dX12_marked_5 (fun _ => ?_) (fun q => absurd q (by decide +kernel))
    refine wp_iconst (v := (-1)) dX12_marked_16 (by decide +kernel) ?_
    refine wp_ireturn dX12_marked_17 rfl ?_
    simp only [vMarked, *, if_true, if_false, reduceCtorEq, Nat.lt_irrefl, and_self, not_true_eq_false, not_false_eq_true, and_true, true_and, false_and, and_false, ite_self] at hq
    exact hq
set_option maxRecDepth 20000 in
theorem pX12_field {h : mH} {Q : Option Value → mH → Prop} {r : Nat → Int64} {F : Nat} {pa my : Nat → Int32} {y what : Int32} (hc : mC h r F pa my) (hd : sOK r F pa my) (hq : Q (some (.int (vField r F pa my y what))) h) : Wp mX12_field 3 66 0 [some (.ref 153), some (.int y), some (.int what)] [] h Q := by
  have hF4 := hd.f4
  have hP6 := hd.w.1.2
  refine wp_aload_n dX12_field_0 rfl rfl ?_
  refine wp_iload_n dX12_field_1 rfl rfl ?_
  refine wp_cV1 1 22 [some _, some _] dX12_field_2 tX12_isField rfl (by decide) nX12_isField vX12_isField lX12_299 ⟨by decide, by decide⟩ (Nat.le_of_ble_eq_true rfl) (mO hc.1) (Nat.le_of_ble_eq_true rfl) rfl ?_
  refine pX12_isField' hc hd (fun j1 hj1 ej1 => ?_) (fun nj1 => ?_)
  · subst ej1
    have xs1 := ix_nI hj1 (by omega)
    intro _ _
    refine wp_if_ne dX12_field_5 (fun _ => ?_) (fun q => absurd q (by decide +kernel))
    refine wp_iload_n dX12_field_10 rfl rfl ?_
    rcases ix_cases (x := what) (n := 8) (by decide) with xn2 | ⟨j2, hj2, ej2⟩
    · refine wp_tableOut (t := 137) dX12_field_11 (ix_out xn2) (by decide +kernel) ?_
      refine wp_iconst (v := (-1)) dX12_field_137 (by decide +kernel) ?_
      refine wp_ireturn dX12_field_138 rfl ?_
      simp only [vField, *, if_true, if_false, reduceCtorEq] at hq
      first | exact hq | (rw [if_neg (by decide)] at hq; exact hq)
    · subst ej2
      rcases (by omega : j2 = 0 ∨ j2 = 1 ∨ j2 = 2 ∨ j2 = 3 ∨ j2 = 4 ∨ j2 = 5 ∨ j2 = 6 ∨ j2 = 7) with rfl | rfl | rfl | rfl | rfl | rfl | rfl | rfl
      · have xs2 := ix_nI (n := 8) (show 0 < 8 by decide) (by decide)
        refine wp_tableIn (off := 45) (t := 56) dX12_field_11 (by decide +kernel) (by decide +kernel) (by decide +kernel) (by decide +kernel) ?_
        refine wp_aload_n dX12_field_56 rfl rfl ?_
        refine wp_getR dX12_field_57 lX12_33 rfl (mO hc.1) (mR_parent hc.1) ?_
        refine wp_iload_n dX12_field_60 rfl rfl ?_
        refine wp_ialdV dX12_field_61 (mA_parent hc.1) rfl ⟨by omega, by decide⟩ (congrFun hc.2.2.2.1 _) ?_
        refine wp_ireturn dX12_field_62 rfl ?_
        simp only [vField, *, if_true, if_false, reduceCtorEq] at hq
        first | exact hq | (rw [if_neg (by decide)] at hq; exact hq)
      · have xs2 := ix_nI (n := 8) (show 1 < 8 by decide) (by decide)
        refine wp_tableIn (off := 52) (t := 63) dX12_field_11 (by decide +kernel) (by decide +kernel) (by decide +kernel) (by decide +kernel) ?_
        refine wp_aload_n dX12_field_63 rfl rfl ?_
        refine wp_getR dX12_field_64 lX12_40 rfl (mO hc.1) (mR_isMany hc.1) ?_
        refine wp_iload_n dX12_field_67 rfl rfl ?_
        refine wp_zaldV dX12_field_68 (mA_isMany hc.1) rfl ⟨by omega, by decide⟩ (congrFun hc.2.2.2.2 _) ?_
        refine wp_cS1 0 0 [some _] dX12_field_69 tX12_truth sX12_truth lX12_320 ⟨by decide, by decide⟩ (Nat.le_of_ble_eq_true rfl) (Nat.le_of_ble_eq_true rfl) rfl ?_
        rcases hd.my j1 (by omega) with y3 | y3
        · rw [y3]
          refine pX12_truth0 ?_
          intro _ _
          refine wp_ireturn dX12_field_72 rfl ?_
          simp only [vField, *, if_true, if_false, reduceCtorEq] at hq
          first | exact hq | (rw [if_neg (by decide)] at hq; exact hq)
        · rw [y3]
          refine pX12_truth1 ?_
          intro _ _
          refine wp_ireturn dX12_field_72 rfl ?_
          simp only [vField, *, if_true, if_false, reduceCtorEq] at hq
          first | exact hq | (rw [if_neg (by decide)] at hq; exact hq)
      · have xs2 := ix_nI (n := 8) (show 2 < 8 by decide) (by decide)
        refine wp_tableIn (off := 62) (t := 73) dX12_field_11 (by decide +kernel) (by decide +kernel) (by decide +kernel) (by decide +kernel) ?_
        refine wp_aload_n dX12_field_73 rfl rfl ?_
        refine wp_iload_n dX12_field_74 rfl rfl ?_
        refine wp_cV1 2 43 [some _, some _, none, none] dX12_field_75 tX12_examples rfl (by decide) nX12_examples vX12_examples lX12_407 ⟨by decide, by decide⟩ (Nat.le_of_ble_eq_true rfl) (mO hc.1) (Nat.le_of_ble_eq_true rfl) rfl ?_
        refine pX12_examples' hc hd (by omega) ?_
        intro _ _
        refine wp_ireturn dX12_field_78 rfl ?_
        simp only [vField, *, if_true, if_false, reduceCtorEq] at hq
        first | exact hq | (rw [if_neg (by decide)] at hq; exact hq)
      · have xs2 := ix_nI (n := 8) (show 3 < 8 by decide) (by decide)
        refine wp_tableIn (off := 68) (t := 79) dX12_field_11 (by decide +kernel) (by decide +kernel) (by decide +kernel) (by decide +kernel) ?_
        refine wp_aload_n dX12_field_79 rfl rfl ?_
        refine wp_iload_n dX12_field_80 rfl rfl ?_
        refine wp_cV1 1 20 [some _, some _] dX12_field_81 tX12_learntRules rfl (by decide) nX12_learntRules vX12_learntRules lX12_463 ⟨by decide, by decide⟩ (Nat.le_of_ble_eq_true rfl) (mO hc.1) (Nat.le_of_ble_eq_true rfl) rfl ?_
        refine pX12_learntRules' hc hd (by omega) ?_
        intro _ _
        refine wp_ireturn dX12_field_84 rfl ?_
        simp only [vField, *, if_true, if_false, reduceCtorEq] at hq
        first | exact hq | (rw [if_neg (by decide)] at hq; exact hq)
      · have xs2 := ix_nI (n := 8) (show 4 < 8 by decide) (by decide)
        refine wp_tableIn (off := 74) (t := 85) dX12_field_11 (by decide +kernel) (by decide +kernel) (by decide +kernel) (by decide +kernel) ?_
        refine wp_aload_n dX12_field_85 rfl rfl ?_
        refine wp_iload_n dX12_field_86 rfl rfl ?_
        refine wp_cV1 1 20 [some _, some _] dX12_field_87 tX12_isLearnt rfl (by decide) nX12_isLearnt vX12_isLearnt lX12_466 ⟨by decide, by decide⟩ (Nat.le_of_ble_eq_true rfl) (mO hc.1) (Nat.le_of_ble_eq_true rfl) rfl ?_
        refine pX12_isLearnt' hc hd (by omega) (fun l4 => ?_) (fun l4 => ?_)
        · intro _ _
          refine wp_if_eq dX12_field_90 (fun q => absurd q (by decide +kernel)) (fun _ => ?_)
          refine wp_aload_n dX12_field_93 rfl rfl ?_
          refine wp_iload_n dX12_field_94 rfl rfl ?_
          refine wp_iconst (v := (nI 0)) dX12_field_95 (by decide +kernel) ?_
          refine wp_cV2 1 20 [some _, some _, some _] dX12_field_96 tX12_shapeOf rfl (by decide) nX12_shapeOf vX12_shapeOf lX12_469 ⟨by decide, by decide⟩ (Nat.le_of_ble_eq_true rfl) (mO hc.1) (Nat.le_of_ble_eq_true rfl) rfl ?_
          refine pX12_shapeOf' hc hd (by omega) (by omega) ?_
          intro _ _
          refine wp_goto dX12_field_99 ?_
          refine wp_ireturn dX12_field_103 rfl ?_
          simp only [vField, *, if_true, if_false, reduceCtorEq] at hq
          first | exact hq | (rw [if_neg (by decide)] at hq; exact hq)
        · intro _ _
          refine wp_if_eq dX12_field_90 (fun _ => ?_) (fun q => absurd q (by decide +kernel))
          refine wp_iconst (v := (-1)) dX12_field_102 (by decide +kernel) ?_
          refine wp_ireturn dX12_field_103 rfl ?_
          simp only [vField, *, if_true, if_false, reduceCtorEq] at hq
          first | exact hq | (rw [if_neg (by decide)] at hq; exact hq)
      · have xs2 := ix_nI (n := 8) (show 5 < 8 by decide) (by decide)
        refine wp_tableIn (off := 93) (t := 104) dX12_field_11 (by decide +kernel) (by decide +kernel) (by decide +kernel) (by decide +kernel) ?_
        refine wp_aload_n dX12_field_104 rfl rfl ?_
        refine wp_iload_n dX12_field_105 rfl rfl ?_
        refine wp_cV1 1 20 [some _, some _] dX12_field_106 tX12_isLearnt rfl (by decide) nX12_isLearnt vX12_isLearnt lX12_466 ⟨by decide, by decide⟩ (Nat.le_of_ble_eq_true rfl) (mO hc.1) (Nat.le_of_ble_eq_true rfl) rfl ?_
        refine pX12_isLearnt' hc hd (by omega) (fun l5 => ?_) (fun l5 => ?_)
        · intro _ _
          refine wp_if_eq dX12_field_109 (fun q => absurd q (by decide +kernel)) (fun _ => ?_)
          refine wp_aload_n dX12_field_112 rfl rfl ?_
          refine wp_iload_n dX12_field_113 rfl rfl ?_
          refine wp_iconst (v := (nI 1)) dX12_field_114 (by decide +kernel) ?_
          refine wp_cV2 1 20 [some _, some _, some _] dX12_field_115 tX12_shapeOf rfl (by decide) nX12_shapeOf vX12_shapeOf lX12_469 ⟨by decide, by decide⟩ (Nat.le_of_ble_eq_true rfl) (mO hc.1) (Nat.le_of_ble_eq_true rfl) rfl ?_
          refine pX12_shapeOf' hc hd (by omega) (by omega) ?_
          intro _ _
          refine wp_goto dX12_field_118 ?_
          refine wp_ireturn dX12_field_122 rfl ?_
          simp only [vField, *, if_true, if_false, reduceCtorEq] at hq
          first | exact hq | (rw [if_neg (by decide)] at hq; exact hq)
        · intro _ _
          refine wp_if_eq dX12_field_109 (fun _ => ?_) (fun q => absurd q (by decide +kernel))
          refine wp_iconst (v := (-1)) dX12_field_121 (by decide +kernel) ?_
          refine wp_ireturn dX12_field_122 rfl ?_
          simp only [vField, *, if_true, if_false, reduceCtorEq] at hq
          first | exact hq | (rw [if_neg (by decide)] at hq; exact hq)
      · have xs2 := ix_nI (n := 8) (show 6 < 8 by decide) (by decide)
        refine wp_tableIn (off := 112) (t := 123) dX12_field_11 (by decide +kernel) (by decide +kernel) (by decide +kernel) (by decide +kernel) ?_
        refine wp_aload_n dX12_field_123 rfl rfl ?_
        refine wp_iload_n dX12_field_124 rfl rfl ?_
        refine wp_iconst (v := (nI 2)) dX12_field_125 (by decide +kernel) ?_
        refine wp_cV2 1 20 [some _, some _, some _] dX12_field_126 tX12_shapeOf rfl (by decide) nX12_shapeOf vX12_shapeOf lX12_469 ⟨by decide, by decide⟩ (Nat.le_of_ble_eq_true rfl) (mO hc.1) (Nat.le_of_ble_eq_true rfl) rfl ?_
        refine pX12_shapeOf' hc hd (by omega) (by omega) ?_
        intro _ _
        refine wp_ireturn dX12_field_129 rfl ?_
        simp only [vField, *, if_true, if_false, reduceCtorEq] at hq
        first | exact hq | (rw [if_neg (by decide)] at hq; exact hq)
      · have xs2 := ix_nI (n := 8) (show 7 < 8 by decide) (by decide)
        refine wp_tableIn (off := 119) (t := 130) dX12_field_11 (by decide +kernel) (by decide +kernel) (by decide +kernel) (by decide +kernel) ?_
        refine wp_aload_n dX12_field_130 rfl rfl ?_
        refine wp_iload_n dX12_field_131 rfl rfl ?_
        refine wp_iconst (v := (nI 3)) dX12_field_132 (by decide +kernel) ?_
        refine wp_cV2 1 20 [some _, some _, some _] dX12_field_133 tX12_shapeOf rfl (by decide) nX12_shapeOf vX12_shapeOf lX12_469 ⟨by decide, by decide⟩ (Nat.le_of_ble_eq_true rfl) (mO hc.1) (Nat.le_of_ble_eq_true rfl) rfl ?_
        refine pX12_shapeOf' hc hd (by omega) (by omega) ?_
        intro _ _
        refine wp_ireturn dX12_field_136 rfl ?_
        simp only [vField, *, if_true, if_false, reduceCtorEq] at hq
        first | exact hq | (rw [if_neg (by decide)] at hq; exact hq)
  · have xn1 := ix_none (by omega) nj1
    intro _ _
    refine wp_if_ne dX12_field_5 (fun q => absurd q (by decide +kernel)) (fun _ => ?_)
    refine wp_iconst (v := (-1)) dX12_field_8 (by decide +kernel) ?_
    refine wp_ireturn dX12_field_9 rfl ?_
    simp only [vField, *, if_true, if_false, reduceCtorEq] at hq
    first | exact hq | (rw [if_neg (by decide)] at hq; exact hq)
