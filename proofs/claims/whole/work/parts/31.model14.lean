/-! ===== images; undo, redo ===== -/
def boxP (bx : Nat → Nat → Int64) (b : Nat) (r : Nat → Int64) : Nat → Nat → Int64 := fun i => if i = b then r else bx i
def keptP (kp : Nat → Int32) (b : Nat) : Nat → Int32 := fun y => if y = b then 1 else kp y
theorem image_mT {h : mH} {r : Nat → Int64} {F : Nat} {pa my : Nat → Int32} {pr : Nat → Nat → Int64} {a u : Nat} {bx : Nat → Nat → Int64} {kp tp : Nat → Int32} {t : Nat} {tf tl : Int32} {b : Nat} (ht : mT h r F pa my pr a u bx kp tp t tf tl) (hb : b < 2) : mT (cpL (sI h 191 b 1) 162 0 190 (935 * b) 935) r F pa my pr a u (boxP bx b r) (keptP kp b) tp t tf tl := by
  refine ⟨⟨ht.1.1, ?_, ht.1.2.2.1, ?_, ?_⟩, ht.zz, fun i hi => ?_, ht.aa, ht.uu, ht.au, fun i hi => ?_, ?_, ?_, ht.t9, ht.ff, ht.ll⟩
  · exact (cpL_oth (by decide)).trans ht.1.2.1
  · exact ht.1.2.2.2.1
  · exact ht.1.2.2.2.2
  · exact (pastR_eq (cpL_oth (by decide))).trans (ht.pp i hi)
  · funext y
    unfold boxR boxP
    by_cases e : i = b
    · subst e
      rw [if_pos rfl]
      by_cases hy : y < 935
      · rw [if_pos hy, cpL_in (by omega) (by omega)]
        show hL h 162 _ = _
        rw [ht.1.2.1, show 0 + (935 * i + y - 935 * i) = y by omega]
      · rw [if_neg hy, ht.zz y (by omega)]
    · rw [if_neg e, ← ht.bb i hi]
      unfold boxR
      by_cases hy : y < 935
      · rw [if_pos hy, if_pos hy, cpL_out (by omega)]
        rfl
      · rw [if_neg hy, if_neg hy]
  · funext y
    show (if 191 = 191 ∧ y = b then 1 else hI h 191 y) = _
    unfold keptP
    rw [ht.kk]
    by_cases e : y = b
    · rw [if_pos ⟨rfl, e⟩, if_pos e]
    · rw [if_neg (fun z => e z.2), if_neg e]
  · exact ht.tt
theorem cpL_fr {h : mH} {a0 sp a dp n : Nat} {F A : List Nat} (ha : a ∈ A) : mFr (mP F A) h (cpL h a0 sp a dp n) := ⟨rfl, rfl, fun _ => rfl, fun _ _ => rfl, fun x y q => ⟨rfl, by rw [cpL_oth (fun e => q (Or.inr (by rw [e]; exact ha)))]⟩⟩
set_option maxRecDepth 20000 in
theorem image_loop {h : mH} {Q : Option Value → mH → Prop} {r : Nat → Int64} {F : Nat} {pa my : Nat → Int32} {pr : Nat → Nat → Int64} {a u : Nat} {bx : Nat → Nat → Int64} {kp tp : Nat → Int32} {t : Nat} {tf tl : Int32} {b : Nat} (ht : mT h r F pa my pr a u bx kp tp t tf tl) (hd : sOK r F pa my) (hb : b < 2) (hq : ∀ h', mFr pwM h h' → mT h' r F pa my pr a u (boxP bx b r) (keptP kp b) tp t tf tl → Q (some (.int (nI (sumF r (rP r) F)))) h') : Wp mX12_image 3 66 20 [some (.ref 153), some (.int (nI b)), some (.int (nI 0))] [] (sI h 191 b 1) Q := by
  have hc := ht.1
  have hF4 := hd.f4
  have hP6 := hd.w.1.2
  have hloop : ∀  (n : Nat) (k : Nat), (k ≤ 935) → (935 < k + n) → Wp mX12_image 3 66 20 [some (.ref 153), some (.int (nI b)), some (.int (nI k))] [] (cpL (sI h 191 b 1) 162 0 190 (935 * b) k) Q := by
    intro n
    induction n with
    | zero => intros; omega
    | succ n ih =>
      intro k hk hmz
      have hc1 : mC (cpL (sI h 191 b 1) 162 0 190 (935 * b) k) r F pa my := ⟨ht.1.1, (cpL_oth (by decide)).trans ht.1.2.1, ht.1.2.2.1, ht.1.2.2.2.1, ht.1.2.2.2.2⟩
      refine wp_iload_n dX12_image_20 rfl rfl ?_
      refine wp_sipush (v := (nI 935)) dX12_image_21 (by decide +kernel) ?_
      refine wp_icmp_geN dX12_image_24 rfl rfl ⟨by omega, by omega⟩ (fun c1 => ?_) (fun c1 => ?_)
      · refine wp_aload_n dX12_image_51 rfl rfl ?_
        refine wp_cV0 2 43 [some _, none, none, none] dX12_image_52 tX12_allParts rfl (by decide) nX12_allParts vX12_allParts lX12_545 ⟨by decide, by decide⟩ (Nat.le_of_ble_eq_true rfl) (mO hc1.1) (Nat.le_of_ble_eq_true rfl) rfl ?_
        have e9 : k = 935 := by omega
        subst e9
        have t9 := image_mT ht hb
        refine pX12_allParts' t9.1 hd ?_
        intro _ _
        refine wp_ireturn dX12_image_55 rfl ?_
        exact hq _ (((mFr.rf.sI _ (Or.inr (by decide))).tr (cpL_fr (by decide)) : mFr (mP [] [190, 191]) _ _).mM (by decide)) t9
      · refine wp_aload_n dX12_image_27 rfl rfl ?_
        refine wp_getR dX12_image_28 lX12_128 rfl (mO hc1.1) (mR_boxes hc1.1) ?_
        refine wp_sipush (v := (nI 935)) dX12_image_31 (by decide +kernel) ?_
        refine wp_iload_n dX12_image_34 rfl rfl ?_
        refine wp_imul dX12_image_35 ?_
        refine wp_iload_n dX12_image_36 rfl rfl ?_
        refine wp_iadd dX12_image_37 ?_
        refine wp_aload_n dX12_image_38 rfl rfl ?_
        refine wp_getR dX12_image_39 lX12_43 rfl (mO hc1.1) (mR_now hc1.1) ?_
        refine wp_iload_n dX12_image_42 rfl rfl ?_
        refine wp_laldV dX12_image_43 (mA_now hc1.1) rfl ⟨by omega, by decide⟩ rfl ?_
        refine wp_lastN dX12_image_44 (mA_boxes hc1.1) (isN_add (isN_mul rfl rfl) rfl) ⟨by omega, by decide⟩ ?_
        refine wp_iinc1 (ls1 := [_, _, some _]) dX12_image_45 rfl (by decide) rfl ?_
        refine wp_goto dX12_image_48 ?_
        rw [cpL_succ (by rw [cpL_oth (by decide), Nat.zero_add])]
        exact ih (k + 1) (by omega) (by omega)
  have hl := hloop 936 0 (by omega) (by omega)
  rw [cpL_0] at hl
  exact hl
set_option maxRecDepth 20000 in
theorem pX12_image {h : mH} {Q : Option Value → mH → Prop} {r : Nat → Int64} {F : Nat} {pa my : Nat → Int32} {pr : Nat → Nat → Int64} {a u : Nat} {bx : Nat → Nat → Int64} {kp tp : Nat → Int32} {t : Nat} {tf tl : Int32} {x : Int32} (ht : mT h r F pa my pr a u bx kp tp t tf tl) (hd : sOK r F pa my) (h0 : ix x 2 = none → Q (some (.int (-1))) h) (h1 : ∀ b, b < 2 → x = nI b → ∀ h', mFr pwM h h' → mT h' r F pa my pr a u (boxP bx b r) (keptP kp b) tp t tf tl → Q (some (.int (nI (sumF r (rP r) F)))) h') : Wp mX12_image 3 66 0 [some (.ref 153), some (.int x), none] [] h Q := by
  have hc := ht.1
  have hF4 := hd.f4
  have hP6 := hd.w.1.2
  refine wp_iload_n dX12_image_0 rfl rfl ?_
  refine wp_iconst (v := (nI 0)) dX12_image_1 (by decide +kernel) ?_
  refine wp_iconst (v := (nI 1)) dX12_image_2 (by decide +kernel) ?_
  refine wp_cS3 0 0 [some _, some _, some _] dX12_image_3 tX12_isIn sX12_isIn lX12_147 ⟨by decide, by decide⟩ (Nat.le_of_ble_eq_true rfl) (Nat.le_of_ble_eq_true rfl) rfl ?_
  refine pX12_isIn (fun i1 => ?_) (fun i1 => ?_)
  · obtain ⟨j1, hj1, ej1⟩ := (ixM (by decide)).mp i1
    subst ej1
    have xs1 := ix_nI (n := 2) (show j1 < 2 by omega) (by decide)
    intro _ _
    refine wp_if_ne dX12_image_6 (fun _ => ?_) (fun q => absurd q (by decide +kernel))
    refine wp_aload_n dX12_image_11 rfl rfl ?_
    refine wp_getR dX12_image_12 lX12_131 rfl (mO ht.1.1) (mR_isKept ht.1.1) ?_
    refine wp_iload_n dX12_image_15 rfl rfl ?_
    refine wp_iconst (v := (nI 1)) dX12_image_16 (by decide +kernel) ?_
    refine wp_zastN dX12_image_17 (mA_isKept ht.1.1) rfl ⟨by omega, by decide⟩ ?_
    refine wp_iconst (v := (nI 0)) dX12_image_18 (by decide +kernel) ?_
    refine wp_istore_n (ls1 := [_, _, some _]) dX12_image_19 rfl (by decide) rfl ?_
    exact image_loop ht hd (by omega) (fun h9 f9 t9 => h1 _ (by omega) rfl h9 f9 t9)
  · have xn1 := ix_none (n := 2) (by decide) (fun j hj ej => i1 ((ixM (by decide)).mpr ⟨j, by omega, ej⟩))
    intro _ _
    refine wp_if_ne dX12_image_6 (fun q => absurd q (by decide +kernel)) (fun _ => ?_)
    refine wp_iconst (v := (-1)) dX12_image_9 (by decide +kernel) ?_
    refine wp_ireturn dX12_image_10 rfl ?_
    exact h0 xn1
theorem back_mT {h : mH} {r : Nat → Int64} {F : Nat} {pa my : Nat → Int32} {pr : Nat → Nat → Int64} {a u : Nat} {bx : Nat → Nat → Int64} {kp tp : Nat → Int32} {t : Nat} {tf tl : Int32} {b : Nat} (ht : mT h r F pa my pr a u bx kp tp t tf tl) (hb : b < 2) : mT (sI (sI (cpL h 190 (935 * b) 162 0 935) 153 28 (nI 0)) 153 29 (nI 0)) (bx b) F pa my pr 0 0 bx kp tp t tf tl := by
  refine ⟨⟨ht.1.1, ?_, ht.1.2.2.1, ht.1.2.2.2.1, ht.1.2.2.2.2⟩, fun y hy => ?_, fun i hi => ?_, rfl, rfl, by omega, fun i hi => ?_, ht.kk, ht.tt, ht.t9, ht.ff, ht.ll⟩
  · show hL (cpL h 190 (935 * b) 162 0 935) 162 = _
    funext y
    rw [← ht.bb b hb]
    unfold boxR
    by_cases hy : y < 935
    · rw [if_pos hy, cpL_in (by omega) (by omega)]
      rfl
    · rw [if_neg hy, cpL_out (by omega), ht.1.2.1]
      exact ht.zz y (by omega)
  · rw [← ht.bb b hb]
    unfold boxR
    rw [if_neg (by omega)]
  · exact (pastR_eq (show hL (cpL h 190 (935 * b) 162 0 935) 166 = hL h 166 from cpL_oth (by decide))).trans (ht.pp i hi)
  · exact (boxR_eq (show hL (cpL h 190 (935 * b) 162 0 935) 190 = hL h 190 from cpL_oth (by decide))).trans (ht.bb i hi)
set_option maxRecDepth 20000 in
theorem back_loop {h : mH} {Q : Option Value → mH → Prop} {r : Nat → Int64} {F : Nat} {pa my : Nat → Int32} {pr : Nat → Nat → Int64} {a u : Nat} {bx : Nat → Nat → Int64} {kp tp : Nat → Int32} {t : Nat} {tf tl : Int32} {b : Nat} (ht : mT h r F pa my pr a u bx kp tp t tf tl) (hdb : sOK (bx b) F pa my) (hb : b < 2) (hq : ∀ h', mFr pwM h h' → mT h' (bx b) F pa my pr 0 0 bx kp tp t tf tl → Q (some (.int (nI (sumF (bx b) (rP (bx b)) F)))) h') : Wp mX12_back 3 66 22 [some (.ref 153), some (.int (nI b)), some (.int (nI 0))] [] h Q := by
  have hloop : ∀  (n : Nat) (k : Nat), (k ≤ 935) → (935 < k + n) → Wp mX12_back 3 66 22 [some (.ref 153), some (.int (nI b)), some (.int (nI k))] [] (cpL h 190 (935 * b) 162 0 k) Q := by
    intro n
    induction n with
    | zero => intros; omega
    | succ n ih =>
      intro k hk hmz
      refine wp_iload_n dX12_back_22 rfl rfl ?_
      refine wp_sipush (v := (nI 935)) dX12_back_23 (by decide +kernel) ?_
      refine wp_icmp_geN dX12_back_26 rfl rfl ⟨by omega, by omega⟩ (fun c1 => ?_) (fun c1 => ?_)
      · refine wp_aload_n dX12_back_53 rfl rfl ?_
        refine wp_iconst (v := (nI 0)) dX12_back_54 (by decide +kernel) ?_
        refine wp_putI dX12_back_55 lX12_249 rfl (Or.inl rfl) (mO ht.1.1) rfl rfl ?_
        refine wp_aload_n dX12_back_58 rfl rfl ?_
        refine wp_iconst (v := (nI 0)) dX12_back_59 (by decide +kernel) ?_
        refine wp_putI dX12_back_60 lX12_252 rfl (Or.inl rfl) (mO ht.1.1) rfl rfl ?_
        refine wp_aload_n dX12_back_63 rfl rfl ?_
        refine wp_cV0 2 43 [some _, none, none, none] dX12_back_64 tX12_allParts rfl (by decide) nX12_allParts vX12_allParts lX12_545 ⟨by decide, by decide⟩ (Nat.le_of_ble_eq_true rfl) (mO ht.1.1) (Nat.le_of_ble_eq_true rfl) rfl ?_
        have e9 : k = 935 := by omega
        subst e9
        have t9 := back_mT ht hb
        refine pX12_allParts' t9.1 hdb ?_
        intro _ _
        refine wp_ireturn dX12_back_67 rfl ?_
        exact hq _ ((((cpL_fr (by decide)).sI _ (Or.inl ⟨rfl, by decide⟩)).sI _ (Or.inl ⟨rfl, by decide⟩) : mFr (mP [28, 29] [162]) _ _).mM (by decide)) t9
      · refine wp_aload_n dX12_back_29 rfl rfl ?_
        refine wp_getR dX12_back_30 lX12_43 rfl (mO ht.1.1) (mR_now ht.1.1) ?_
        refine wp_iload_n dX12_back_33 rfl rfl ?_
        refine wp_aload_n dX12_back_34 rfl rfl ?_
        refine wp_getR dX12_back_35 lX12_128 rfl (mO ht.1.1) (mR_boxes ht.1.1) ?_
        refine wp_sipush (v := (nI 935)) dX12_back_38 (by decide +kernel) ?_
        refine wp_iload_n dX12_back_41 rfl rfl ?_
        refine wp_imul dX12_back_42 ?_
        refine wp_iload_n dX12_back_43 rfl rfl ?_
        refine wp_iadd dX12_back_44 ?_
        refine wp_laldN dX12_back_45 (mA_boxes ht.1.1) (isN_add (isN_mul rfl rfl) rfl) ⟨by omega, by decide⟩ ?_
        refine wp_lastN dX12_back_46 (mA_now ht.1.1) rfl ⟨by omega, by decide⟩ ?_
        refine wp_iinc1 (ls1 := [_, _, some _]) dX12_back_47 rfl (by decide) rfl ?_
        refine wp_goto dX12_back_50 ?_
        rw [show sL (cpL h 190 (935 * b) 162 0 k) 162 k (hL (cpL h 190 (935 * b) 162 0 k) 190 (935 * b + k)) = cpL h 190 (935 * b) 162 0 (k + 1) from by
          have e9 := cpL_succ (h := h) (a0 := 190) (sp := 935 * b) (a := 162) (dp := 0) (k := k) rfl
          rw [Nat.zero_add] at e9
          rw [← e9, cpL_oth (by decide)]]
        exact ih (k + 1) (by omega) (by omega)
  have hl := hloop 936 0 (by omega) (by omega)
  rw [cpL_0] at hl
  exact hl
set_option maxRecDepth 20000 in
theorem pX12_back {h : mH} {Q : Option Value → mH → Prop} {r : Nat → Int64} {F : Nat} {pa my : Nat → Int32} {pr : Nat → Nat → Int64} {a u : Nat} {bx : Nat → Nat → Int64} {kp tp : Nat → Int32} {t : Nat} {tf tl : Int32} {x : Int32} (ht : mT h r F pa my pr a u bx kp tp t tf tl) (hk : ∀ b, b < 2 → ¬ kp b = 0 → sOK (bx b) F pa my) (h0 : (∀ b, b < 2 → x = nI b → kp b = 0) → Q (some (.int (-1))) h) (h1 : ∀ b, b < 2 → x = nI b → ¬ kp b = 0 → ∀ h', mFr pwM h h' → mT h' (bx b) F pa my pr 0 0 bx kp tp t tf tl → Q (some (.int (nI (sumF (bx b) (rP (bx b)) F)))) h') : Wp mX12_back 3 66 0 [some (.ref 153), some (.int x), none] [] h Q := by
  have hc := ht.1
  refine wp_iload_n dX12_back_0 rfl rfl ?_
  refine wp_iconst (v := (nI 0)) dX12_back_1 (by decide +kernel) ?_
  refine wp_iconst (v := (nI 1)) dX12_back_2 (by decide +kernel) ?_
  refine wp_cS3 0 0 [some _, some _, some _] dX12_back_3 tX12_isIn sX12_isIn lX12_147 ⟨by decide, by decide⟩ (Nat.le_of_ble_eq_true rfl) (Nat.le_of_ble_eq_true rfl) rfl ?_
  refine pX12_isIn (fun i1 => ?_) (fun i1 => ?_)
  · obtain ⟨j1, hj1, ej1⟩ := (ixM (by decide)).mp i1
    subst ej1
    have xs1 := ix_nI (n := 2) (show j1 < 2 by omega) (by decide)
    intro _ _
    refine wp_if_eq dX12_back_6 (fun q => absurd q (by decide +kernel)) (fun _ => ?_)
    refine wp_aload_n dX12_back_9 rfl rfl ?_
    refine wp_getR dX12_back_10 lX12_131 rfl (mO ht.1.1) (mR_isKept ht.1.1) ?_
    refine wp_iload_n dX12_back_13 rfl rfl ?_
    refine wp_zaldV dX12_back_14 (mA_isKept ht.1.1) rfl ⟨by omega, by decide⟩ (congrFun ht.kk _) ?_
    refine wp_if_ne dX12_back_15 (fun c2 => ?_) (fun c2 => ?_)
    · refine wp_iconst (v := (nI 0)) dX12_back_20 (by decide +kernel) ?_
      refine wp_istore_n (ls1 := [_, _, some _]) dX12_back_21 rfl (by decide) rfl ?_
      exact back_loop ht (hk _ (by omega) (by assumption)) (by omega) (fun h9 f9 t9 => h1 _ (by omega) rfl (by assumption) h9 f9 t9)
    · refine wp_iconst (v := (-1)) dX12_back_18 (by decide +kernel) ?_
      refine wp_ireturn dX12_back_19 rfl ?_
      exact h0 (fun b9 g1 g2 => by first | exact absurd ((ix_nI g1 (by decide)).symm.trans (g2 ▸ xn1)) (by simp) | (have e9 := (nI_eq (by omega) (by omega)).mp g2; subst e9; assumption))
  · have xn1 := ix_none (n := 2) (by decide) (fun j hj ej => i1 ((ixM (by decide)).mpr ⟨j, by omega, ej⟩))
    intro _ _
    refine wp_if_eq dX12_back_6 (fun _ => ?_) (fun q => absurd q (by decide +kernel))
    refine wp_iconst (v := (-1)) dX12_back_18 (by decide +kernel) ?_
    refine wp_ireturn dX12_back_19 rfl ?_
    exact h0 (fun b9 g1 g2 => by first | exact absurd ((ix_nI g1 (by decide)).symm.trans (g2 ▸ xn1)) (by simp) | (have e9 := (nI_eq (by omega) (by omega)).mp g2; subst e9; assumption))
def exP (pr : Nat → Nat → Int64) (i : Nat) (r : Nat → Int64) : Nat → Nat → Int64 := fun k => if k = i then r else pr k
theorem ex_rows {h : mH} {r : Nat → Int64} {F : Nat} {pa my : Nat → Int32} {pr : Nat → Nat → Int64} {a u : Nat} {bx : Nat → Nat → Int64} {kp tp : Nat → Int32} {t : Nat} {tf tl : Int32} {i : Nat} (ht : mT h r F pa my pr a u bx kp tp t tf tl) (hi : i < 16) : hL (exH h i 935) 162 = pr i ∧ (∀ k, k < 16 → pastR (exH h i 935) k = exP pr i r k) ∧ (∀ b, b < 2 → boxR (exH h i 935) b = bx b) := by
  refine ⟨?_, fun k hk => ?_, fun b hb => ?_⟩
  · funext y
    rw [hL_exH, ← ht.pp i hi]
    unfold pastR
    by_cases hy : y < 935
    · rw [if_pos ⟨rfl, hy⟩, if_pos hy]
    · rw [if_neg (fun q => hy q.2), if_neg (by omega), if_neg hy, ht.1.2.1]
      exact ht.zz y (by omega)
  · funext y
    unfold pastR exP
    by_cases hy : y < 935
    · rw [if_pos hy, hL_exH, if_neg (by omega)]
      by_cases e : k = i
      · rw [if_pos e, if_pos (by omega), ht.1.2.1, e, show 935 * i + y - 935 * i = y by omega]
      · rw [if_neg e, if_neg (by omega), ← ht.pp k hk]
        unfold pastR
        rw [if_pos hy]
    · rw [if_neg hy]
      by_cases e : k = i
      · rw [if_pos e, ht.zz y (by omega)]
      · rw [if_neg e, ← ht.pp k hk]
        unfold pastR
        rw [if_neg hy]
  · refine (boxR_eq ?_).trans (ht.bb b hb)
    funext y
    rw [hL_exH, if_neg (by omega), if_neg (by omega)]
theorem exH_fr {h : mH} {i : Nat} : mFr (mP [28, 29] [162, 166]) h (exH h i 935) := ⟨rfl, rfl, fun _ => rfl, fun _ _ => rfl, fun x y q => ⟨rfl, by
  rw [hL_exH, if_neg (fun e => q (Or.inr (by rw [e.1]; decide))), if_neg (fun e => q (Or.inr (by rw [e.1]; decide)))]⟩⟩
theorem pastR_z {h : mH} {i y : Nat} (hy : 935 ≤ y) : pastR h i y = 0 := by
  unfold pastR
  rw [if_neg (by omega)]
set_option maxRecDepth 20000 in
theorem pX12_undo' {h : mH} {Q : Option Value → mH → Prop} {r : Nat → Int64} {F : Nat} {pa my : Nat → Int32} {pr : Nat → Nat → Int64} {a u : Nat} {bx : Nat → Nat → Int64} {kp tp : Nat → Int32} {t : Nat} {tf tl : Int32}  (ht : mT h r F pa my pr a u bx kp tp t tf tl) (h0 : a = 0 → Q (some (.int (nI 0))) h) (h1 : 0 < a → ∀ h', mFr pwM h h' → mT h' (pr (a - 1)) F pa my (exP pr (a - 1) r) (a - 1) (u + 1) bx kp tp t tf tl → Q (some (.int (nI 1))) h') : Wp mX12_undo 1 24 0 [some (.ref 153)] [] h Q := by
  have h16 := ht.au
  refine pX12_undo ht.1.1 (by omega) (by omega) ht.aa ht.uu h0 (fun ha => ?_)
  have ht2 : mT (sI (sI h 153 28 (nI (a - 1))) 153 29 (nI (u + 1))) r F pa my pr (a - 1) (u + 1) bx kp tp t tf tl := ⟨⟨ht.1.1, ht.1.2.1, ht.1.2.2.1, ht.1.2.2.2.1, ht.1.2.2.2.2⟩, ht.zz, ht.pp, rfl, rfl, by omega, ht.bb, ht.kk, ht.tt, ht.t9, ht.ff, ht.ll⟩
  obtain ⟨e1, e2, e3⟩ := ex_rows ht2 (i := a - 1) (by omega)
  refine h1 ha _ (((((mFr.rf.sI _ (Or.inl ⟨rfl, by decide⟩)).sI _ (Or.inl ⟨rfl, by decide⟩)).tr exH_fr) : mFr (mP [28, 29] [162, 166]) _ _).mM (by decide)) ?_
  exact ⟨⟨ht.1.1, e1, ht.1.2.2.1, ht.1.2.2.2.1, ht.1.2.2.2.2⟩, fun y hy => by rw [← ht.pp (a - 1) (by omega)]; exact pastR_z hy, e2, rfl, rfl, by omega, e3, ht.kk, ht.tt, ht.t9, ht.ff, ht.ll⟩
set_option maxRecDepth 20000 in
theorem pX12_redo' {h : mH} {Q : Option Value → mH → Prop} {r : Nat → Int64} {F : Nat} {pa my : Nat → Int32} {pr : Nat → Nat → Int64} {a u : Nat} {bx : Nat → Nat → Int64} {kp tp : Nat → Int32} {t : Nat} {tf tl : Int32}  (ht : mT h r F pa my pr a u bx kp tp t tf tl) (h0 : u = 0 → Q (some (.int (nI 0))) h) (h1 : 0 < u → ∀ h', mFr pwM h h' → mT h' (pr a) F pa my (exP pr a r) (a + 1) (u - 1) bx kp tp t tf tl → Q (some (.int (nI 1))) h') : Wp mX12_redo 1 24 0 [some (.ref 153)] [] h Q := by
  have h16 := ht.au
  refine pX12_redo ht.1.1 (by omega) ht.aa ht.uu h0 (fun hu => ?_)
  have ht2 : mT (sI h 153 29 (nI (u - 1))) r F pa my pr a (u - 1) bx kp tp t tf tl := ⟨⟨ht.1.1, ht.1.2.1, ht.1.2.2.1, ht.1.2.2.2.1, ht.1.2.2.2.2⟩, ht.zz, ht.pp, ht.aa, rfl, by omega, ht.bb, ht.kk, ht.tt, ht.t9, ht.ff, ht.ll⟩
  obtain ⟨e1, e2, e3⟩ := ex_rows ht2 (i := a) (by omega)
  refine h1 hu _ (((((mFr.rf.sI _ (Or.inl ⟨rfl, by decide⟩)).tr exH_fr).sI _ (Or.inl ⟨rfl, by decide⟩)) : mFr (mP [28, 29] [162, 166]) _ _).mM (by decide)) ?_
  exact ⟨⟨ht.1.1, e1, ht.1.2.2.1, ht.1.2.2.2.1, ht.1.2.2.2.2⟩, fun y hy => by rw [← ht.pp a (by omega)]; exact pastR_z hy, e2, rfl, rfl, by omega, e3, ht.kk, ht.tt, ht.t9, ht.ff, ht.ll⟩
