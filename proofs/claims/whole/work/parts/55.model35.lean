/-! ===== learning ===== -/
def lnZ (r : Nat → Int64) (f k : Nat) : Nat → Int64 := fun y => if 655 + 70 * f ≤ y ∧ y < 655 + 70 * f + k then 0 else r y
theorem lnZ_s {r : Nat → Int64} {f k : Nat} : up1 (lnZ r f k) (655 + 70 * f + k) 0 = lnZ r f (k + 1) := by
  funext y
  unfold up1 lnZ
  by_cases e : y = 655 + 70 * f + k
  · rw [if_pos e, if_pos (show 655 + 70 * f ≤ y ∧ y < 655 + 70 * f + (k + 1) by omega)]
  · rw [if_neg e]
    by_cases z : 655 + 70 * f ≤ y ∧ y < 655 + 70 * f + k
    · rw [if_pos z, if_pos (show 655 + 70 * f ≤ y ∧ y < 655 + 70 * f + (k + 1) by omega)]
    · rw [if_neg z, if_neg (show ¬ (655 + 70 * f ≤ y ∧ y < 655 + 70 * f + (k + 1)) by omega)]
theorem lnZ_0 {r : Nat → Int64} {f : Nat} : lnZ r f 0 = r := by
  funext y
  unfold lnZ
  rw [if_neg (by omega)]
/-- the items of n numbers so far -/
def lnB (r : Nat → Int64) (f : Nat) (L : List Nat) (n : Nat) : Nat → Int64 := fun y => if y = 655 + 70 * f then 1 else if y = 655 + 70 * f + 1 then lN L.length else if 655 + 70 * f + 2 ≤ y ∧ y < 655 + 70 * f + 2 + n then (itm (kI (L.getD ((y - (655 + 70 * f + 2)) / 4) 0) ((y - (655 + 70 * f + 2)) % 4))).toInt64 else lnZ r f 70 y
theorem lnB_0 {r : Nat → Int64} {f : Nat} {L : List Nat} : up1 (up1 (lnZ r f 70) (655 + 70 * f) 1) (655 + 70 * f + 1) (lN L.length) = lnB r f L 0 := by
  funext y
  unfold up1 lnB
  by_cases e : y = 655 + 70 * f + 1
  · rw [if_pos e, if_neg (show ¬ y = 655 + 70 * f by omega), if_pos e]
  · rw [if_neg e]
    by_cases z : y = 655 + 70 * f
    · rw [if_pos z, if_pos z]
    · rw [if_neg z, if_neg z, if_neg e, if_neg (show ¬ (655 + 70 * f + 2 ≤ y ∧ y < 655 + 70 * f + 2 + 0) by omega)]
theorem lnB_s {r : Nat → Int64} {f k w i : Nat} {L : List Nat} (hw : w < 4) (hi : i = 655 + 70 * f + 2 + 4 * k + w) : up1 (lnB r f L (4 * k + w)) i (itm (kI (L.getD k 0) w)).toInt64 = lnB r f L (4 * k + (w + 1)) := by
  subst hi
  funext y
  unfold up1 lnB
  by_cases e : y = 655 + 70 * f + 2 + 4 * k + w
  · have h1 : (y - (655 + 70 * f + 2)) / 4 = k := by omega
    have h2 : (y - (655 + 70 * f + 2)) % 4 = w := by omega
    rw [if_pos e, if_neg (show ¬ y = 655 + 70 * f by omega), if_neg (show ¬ y = 655 + 70 * f + 1 by omega), if_pos (show 655 + 70 * f + 2 ≤ y ∧ y < 655 + 70 * f + 2 + (4 * k + (w + 1)) by omega), h1, h2]
  · rw [if_neg e]
    by_cases z : 655 + 70 * f + 2 ≤ y ∧ y < 655 + 70 * f + 2 + (4 * k + w)
    · rw [if_pos z, if_pos (show 655 + 70 * f + 2 ≤ y ∧ y < 655 + 70 * f + 2 + (4 * k + (w + 1)) by omega)]
    · rw [if_neg z, if_neg (show ¬ (655 + 70 * f + 2 ≤ y ∧ y < 655 + 70 * f + 2 + (4 * k + (w + 1))) by omega)]
/-- the row with what is learnt of a field, n numbers of its shape laid -/
def lnS (r : Nat → Int64) (f : Nat) (L : List Nat) (n : Nat) : Nat → Int64 := fun y => if 655 + 70 * f + 26 ≤ y ∧ y < 655 + 70 * f + 26 + n then lN (shV r f (y - (655 + 70 * f + 26))) else lnB r f L (4 * L.length) y
theorem lnS_s {r : Nat → Int64} {f n i : Nat} {L : List Nat} (hi : i = 655 + 70 * f + 26 + n) : up1 (lnS r f L n) i (lN (shV r f n)) = lnS r f L (n + 1) := by
  subst hi
  funext y
  unfold up1 lnS
  by_cases e : y = 655 + 70 * f + 26 + n
  · rw [if_pos e, if_pos (show 655 + 70 * f + 26 ≤ y ∧ y < 655 + 70 * f + 26 + (n + 1) by omega), show y - (655 + 70 * f + 26) = n by omega]
  · rw [if_neg e]
    by_cases z : 655 + 70 * f + 26 ≤ y ∧ y < 655 + 70 * f + 26 + n
    · rw [if_pos z, if_pos (show 655 + 70 * f + 26 ≤ y ∧ y < 655 + 70 * f + 26 + (n + 1) by omega)]
    · rw [if_neg z, if_neg (show ¬ (655 + 70 * f + 26 ≤ y ∧ y < 655 + 70 * f + 26 + (n + 1)) by omega)]
theorem lnS_0 {r : Nat → Int64} {f : Nat} {L : List Nat} : lnS r f L 0 = lnB r f L (4 * L.length) := by
  funext y
  unfold lnS
  rw [if_neg (by omega)]
set_option maxRecDepth 20000 in
theorem learn_a {h : mH} {Q : Option Value → mH → Prop} {r : Nat → Int64} {F : Nat} {pa my : Nat → Int32} {pr : Nat → Nat → Int64} {a u : Nat} {bx : Nat → Nat → Int64} {kp tp : Nat → Int32} {t : Nat} {tf tl : Int32} {f : Nat} {x4 : Option Value} (ht : mT h r F pa my pr a u bx kp tp t tf tl) (hf : f < 4) (K9 : ∀ x4 h1, mFr (mP [] [162]) h h1 → mT h1 (lnZ r f 70) F pa my pr a u bx kp tp t tf tl → Wp mX12_learns 8 200 38 [some (.ref 153), some (.int (nI f)), some (.int (nI (655 + 70 * f))), some (.int (nI 70)), x4] [] h1 Q) : Wp mX12_learns 8 200 17 [some (.ref 153), some (.int (nI f)), some (.int (nI (655 + 70 * f))), some (.int (nI 0)), x4] [] h Q := by
  have hloop : ∀  (t9 : Nat) (k : Nat) (x4 : Option Value) (h1 : mH), (k ≤ 70) → (mFr (mP [] [162]) h h1) → (mT h1 (lnZ r f k) F pa my pr a u bx kp tp t tf tl) → (70 < k + t9) → Wp mX12_learns 8 200 17 [some (.ref 153), some (.int (nI f)), some (.int (nI (655 + 70 * f))), some (.int (nI k)), x4] [] h1 Q := by
    intro t9
    induction t9 with
    | zero => intros; omega
    | succ t9 ih =>
      intro k x4 h1 hk hf1 t1 hmz
      refine wp_iload_n dX12_learns_17 rfl rfl ?_
      refine wp_bipush (v := (nI 70)) dX12_learns_18 (by decide +kernel) ?_
      refine wp_icmp_geN dX12_learns_20 rfl rfl ⟨by omega, by omega⟩ (fun c1 => ?_) (fun c1 => ?_)
      · have e9 : k = 70 := by omega
        subst e9
        exact K9 _ _ hf1 t1
      · refine wp_aload_n dX12_learns_23 rfl rfl ?_
        refine wp_getR dX12_learns_24 lX12_43 rfl (mO t1.1.1) (mR_now t1.1.1) ?_
        refine wp_iload_n dX12_learns_27 rfl rfl ?_
        refine wp_iload_n dX12_learns_28 rfl rfl ?_
        refine wp_iadd dX12_learns_29 ?_
        refine wp_lconst (v := 0) dX12_learns_30 (by decide +kernel) ?_
        refine wp_lastT dX12_learns_31 t1 (isN_add rfl rfl) (by omega) rfl (fun hh1 t1 f1 => ?_)
        refine wp_iinc1 (ls1 := [_, _, _, some _, _]) dX12_learns_32 rfl (by decide) rfl ?_
        refine wp_goto dX12_learns_35 ?_
        refine ih (k + 1) _ _ (by omega) ((hf1.up (by decide) (by decide)).tr (f1.up (by decide) (by decide))) (by rw [← lnZ_s]; exact t1) (by omega)
  exact hloop 71 0 x4 h (by omega) mFr.rf (by rw [lnZ_0]; exact ht) (by omega)
set_option maxRecDepth 20000 in
theorem learn_b {h : mH} {Q : Option Value → mH → Prop} {r : Nat → Int64} {F : Nat} {pa my : Nat → Int32} {pr : Nat → Nat → Int64} {a u : Nat} {bx : Nat → Nat → Int64} {kp tp : Nat → Int32} {t : Nat} {tf tl : Int32} {r9 : Nat → Int64} {f S n : Nat} {K O : Nat → Nat} {L : List Nat} {x4 : Option Value} (ht : mT h (lnB r f L 0) F pa my pr a u bx kp tp t tf tl) (hf : f < 4) (rl : ruL h r9 pa my f S n K O) (cv : cvR h n K L) (K9 : ∀ x4 h1, mFr (mP [] [162]) h h1 → cvR h1 n K L → mT h1 (lnB r f L (4 * L.length)) F pa my pr a u bx kp tp t tf tl → Wp mX12_learns 8 200 121 [some (.ref 153), some (.int (nI f)), some (.int (nI (655 + 70 * f))), some (.int (nI L.length)), x4] [] h1 Q) : Wp mX12_learns 8 200 60 [some (.ref 153), some (.int (nI f)), some (.int (nI (655 + 70 * f))), some (.int (nI 0)), x4] [] h Q := by
  have hL6 := cv.2.1
  have hn9 := rl.2.1
  have hloop : ∀  (t9 : Nat) (k : Nat) (x4 : Option Value) (h1 : mH), (k ≤ L.length) → (mFr (mP [] [162]) h h1) → (ruL h1 r9 pa my f S n K O) → (cvR h1 n K L) → (mT h1 (lnB r f L (4 * k)) F pa my pr a u bx kp tp t tf tl) → (L.length < k + t9) → Wp mX12_learns 8 200 60 [some (.ref 153), some (.int (nI f)), some (.int (nI (655 + 70 * f))), some (.int (nI k)), x4] [] h1 Q := by
    intro t9
    induction t9 with
    | zero => intros; omega
    | succ t9 ih =>
      intro k x4 h1 hk hf1 rl1 cv1 t1 hmz
      refine wp_iload_n dX12_learns_60 rfl rfl ?_
      refine wp_aload_n dX12_learns_61 rfl rfl ?_
      refine wp_getIV dX12_learns_62 lX12_425 rfl (mO t1.1.1) cv1.1 ?_
      refine wp_icmp_geN dX12_learns_65 rfl rfl ⟨by omega, by omega⟩ (fun c1 => ?_) (fun c1 => ?_)
      · have e9 : k = L.length := by omega
        subst e9
        exact K9 _ _ hf1 cv1 t1
      · obtain ⟨x9, hx9, ex9, kx9⟩ := cv1.2.2 k (by omega)
        refine wp_iconst (v := (nI 0)) dX12_learns_68 (by decide +kernel) ?_
        refine wp_istore (ls1 := [_, _, _, _, some _]) dX12_learns_69 (by decide) rfl ?_
        refine wp_iload dX12_learns_71 rfl ?_
        refine wp_iconst (v := (nI 4)) dX12_learns_73 (by decide +kernel) ?_
        refine wp_icmp_ge dX12_learns_74 (fun q => absurd q (by decide +kernel)) (fun _ => ?_)
        refine wp_aload_n dX12_learns_77 rfl rfl ?_
        refine wp_getR dX12_learns_78 lX12_43 rfl (mO t1.1.1) (mR_now t1.1.1) ?_
        refine wp_iload_n dX12_learns_81 rfl rfl ?_
        refine wp_iconst (v := (nI 2)) dX12_learns_82 (by decide +kernel) ?_
        refine wp_iadd dX12_learns_83 ?_
        refine wp_iconst (v := (nI 4)) dX12_learns_84 (by decide +kernel) ?_
        refine wp_iload_n dX12_learns_85 rfl rfl ?_
        refine wp_imul dX12_learns_86 ?_
        refine wp_iadd dX12_learns_87 ?_
        refine wp_iload dX12_learns_88 rfl ?_
        refine wp_iadd dX12_learns_90 ?_
        refine wp_aload_n dX12_learns_91 rfl rfl ?_
        refine wp_getR dX12_learns_92 lX12_70 rfl (mO t1.1.1) (mR_key t1.1.1) ?_
        refine wp_aload_n dX12_learns_95 rfl rfl ?_
        refine wp_getR dX12_learns_96 lX12_98 rfl (mO t1.1.1) (mR_coverRule t1.1.1) ?_
        refine wp_iload_n dX12_learns_99 rfl rfl ?_
        refine wp_ialdV dX12_learns_100 (mA_coverRule t1.1.1) rfl ⟨by omega, by decide⟩ ((congrFun (rfl : hI h1 180 = hI h1 180) k).trans ex9) ?_
        refine wp_laldV dX12_learns_101 (mA_key t1.1.1) rfl ⟨by omega, by decide⟩ (rl1.2.2.1 x9 (by omega)).1.1 ?_
        refine wp_iload dX12_learns_102 rfl ?_
        refine wp_cS2 0 0 [some _, none, some _] dX12_learns_104 tX12_itemOf sX12_itemOf lX12_403 ⟨by decide, by decide⟩ (Nat.le_of_ble_eq_true rfl) (Nat.le_of_ble_eq_true rfl) rfl ?_
        refine pX12_itemOf (rl1.2.2.1 x9 hx9).1.2 (by omega) ?_
        intro _ _
        refine wp_i2l dX12_learns_107 ?_
        refine wp_lastT dX12_learns_108 t1 (isN_add (isN_add (isN_add rfl rfl) (isN_mul rfl rfl)) rfl) (by omega) (congrArg (fun z => (itm (kI z _)).toInt64) kx9) (fun hh1 t1 f1 => ?_)
        have rl1 := rl1.fr f1 (by decide) (by decide)
        have cv1 := cv1.fr f1 (by decide) (by decide)
        have eI180_1 := (f1.Ir (by decide) (by decide)).trans (rfl : hI h1 180 = hI h1 180)
        refine wp_iinc1 (ls1 := [_, _, _, _, some _]) dX12_learns_109 rfl (by decide) rfl ?_
        refine wp_goto dX12_learns_112 ?_
        refine wp_iload dX12_learns_71 rfl ?_
        refine wp_iconst (v := (nI 4)) dX12_learns_73 (by decide +kernel) ?_
        refine wp_icmp_ge dX12_learns_74 (fun q => absurd q (by decide +kernel)) (fun _ => ?_)
        refine wp_aload_n dX12_learns_77 rfl rfl ?_
        refine wp_getR dX12_learns_78 lX12_43 rfl (mO t1.1.1) (mR_now t1.1.1) ?_
        refine wp_iload_n dX12_learns_81 rfl rfl ?_
        refine wp_iconst (v := (nI 2)) dX12_learns_82 (by decide +kernel) ?_
        refine wp_iadd dX12_learns_83 ?_
        refine wp_iconst (v := (nI 4)) dX12_learns_84 (by decide +kernel) ?_
        refine wp_iload_n dX12_learns_85 rfl rfl ?_
        refine wp_imul dX12_learns_86 ?_
        refine wp_iadd dX12_learns_87 ?_
        refine wp_iload dX12_learns_88 rfl ?_
        refine wp_iadd dX12_learns_90 ?_
        refine wp_aload_n dX12_learns_91 rfl rfl ?_
        refine wp_getR dX12_learns_92 lX12_70 rfl (mO t1.1.1) (mR_key t1.1.1) ?_
        refine wp_aload_n dX12_learns_95 rfl rfl ?_
        refine wp_getR dX12_learns_96 lX12_98 rfl (mO t1.1.1) (mR_coverRule t1.1.1) ?_
        refine wp_iload_n dX12_learns_99 rfl rfl ?_
        refine wp_ialdV dX12_learns_100 (mA_coverRule t1.1.1) rfl ⟨by omega, by decide⟩ ((congrFun eI180_1 k).trans ex9) ?_
        refine wp_laldV dX12_learns_101 (mA_key t1.1.1) rfl ⟨by omega, by decide⟩ (rl1.2.2.1 x9 (by omega)).1.1 ?_
        refine wp_iload dX12_learns_102 rfl ?_
        refine wp_cS2 0 0 [some _, none, some _] dX12_learns_104 tX12_itemOf sX12_itemOf lX12_403 ⟨by decide, by decide⟩ (Nat.le_of_ble_eq_true rfl) (Nat.le_of_ble_eq_true rfl) rfl ?_
        refine pX12_itemOf (rl1.2.2.1 x9 hx9).1.2 (by omega) ?_
        intro _ _
        refine wp_i2l dX12_learns_107 ?_
        refine wp_lastT dX12_learns_108 t1 (isN_add (isN_add (isN_add rfl rfl) (isN_mul rfl rfl)) rfl) (by omega) (congrArg (fun z => (itm (kI z _)).toInt64) kx9) (fun hh2 t2 f2 => ?_)
        have rl2 := rl1.fr f2 (by decide) (by decide)
        have cv2 := cv1.fr f2 (by decide) (by decide)
        have eI180_2 := (f2.Ir (by decide) (by decide)).trans eI180_1
        refine wp_iinc1 (ls1 := [_, _, _, _, some _]) dX12_learns_109 rfl (by decide) rfl ?_
        refine wp_goto dX12_learns_112 ?_
        refine wp_iload dX12_learns_71 rfl ?_
        refine wp_iconst (v := (nI 4)) dX12_learns_73 (by decide +kernel) ?_
        refine wp_icmp_ge dX12_learns_74 (fun q => absurd q (by decide +kernel)) (fun _ => ?_)
        refine wp_aload_n dX12_learns_77 rfl rfl ?_
        refine wp_getR dX12_learns_78 lX12_43 rfl (mO t2.1.1) (mR_now t2.1.1) ?_
        refine wp_iload_n dX12_learns_81 rfl rfl ?_
        refine wp_iconst (v := (nI 2)) dX12_learns_82 (by decide +kernel) ?_
        refine wp_iadd dX12_learns_83 ?_
        refine wp_iconst (v := (nI 4)) dX12_learns_84 (by decide +kernel) ?_
        refine wp_iload_n dX12_learns_85 rfl rfl ?_
        refine wp_imul dX12_learns_86 ?_
        refine wp_iadd dX12_learns_87 ?_
        refine wp_iload dX12_learns_88 rfl ?_
        refine wp_iadd dX12_learns_90 ?_
        refine wp_aload_n dX12_learns_91 rfl rfl ?_
        refine wp_getR dX12_learns_92 lX12_70 rfl (mO t2.1.1) (mR_key t2.1.1) ?_
        refine wp_aload_n dX12_learns_95 rfl rfl ?_
        refine wp_getR dX12_learns_96 lX12_98 rfl (mO t2.1.1) (mR_coverRule t2.1.1) ?_
        refine wp_iload_n dX12_learns_99 rfl rfl ?_
        refine wp_ialdV dX12_learns_100 (mA_coverRule t2.1.1) rfl ⟨by omega, by decide⟩ ((congrFun eI180_2 k).trans ex9) ?_
        refine wp_laldV dX12_learns_101 (mA_key t2.1.1) rfl ⟨by omega, by decide⟩ (rl2.2.2.1 x9 (by omega)).1.1 ?_
        refine wp_iload dX12_learns_102 rfl ?_
        refine wp_cS2 0 0 [some _, none, some _] dX12_learns_104 tX12_itemOf sX12_itemOf lX12_403 ⟨by decide, by decide⟩ (Nat.le_of_ble_eq_true rfl) (Nat.le_of_ble_eq_true rfl) rfl ?_
        refine pX12_itemOf (rl2.2.2.1 x9 hx9).1.2 (by omega) ?_
        intro _ _
        refine wp_i2l dX12_learns_107 ?_
        refine wp_lastT dX12_learns_108 t2 (isN_add (isN_add (isN_add rfl rfl) (isN_mul rfl rfl)) rfl) (by omega) (congrArg (fun z => (itm (kI z _)).toInt64) kx9) (fun hh3 t3 f3 => ?_)
        have rl3 := rl2.fr f3 (by decide) (by decide)
        have cv3 := cv2.fr f3 (by decide) (by decide)
        have eI180_3 := (f3.Ir (by decide) (by decide)).trans eI180_2
        refine wp_iinc1 (ls1 := [_, _, _, _, some _]) dX12_learns_109 rfl (by decide) rfl ?_
        refine wp_goto dX12_learns_112 ?_
        refine wp_iload dX12_learns_71 rfl ?_
        refine wp_iconst (v := (nI 4)) dX12_learns_73 (by decide +kernel) ?_
        refine wp_icmp_ge dX12_learns_74 (fun q => absurd q (by decide +kernel)) (fun _ => ?_)
        refine wp_aload_n dX12_learns_77 rfl rfl ?_
        refine wp_getR dX12_learns_78 lX12_43 rfl (mO t3.1.1) (mR_now t3.1.1) ?_
        refine wp_iload_n dX12_learns_81 rfl rfl ?_
        refine wp_iconst (v := (nI 2)) dX12_learns_82 (by decide +kernel) ?_
        refine wp_iadd dX12_learns_83 ?_
        refine wp_iconst (v := (nI 4)) dX12_learns_84 (by decide +kernel) ?_
        refine wp_iload_n dX12_learns_85 rfl rfl ?_
        refine wp_imul dX12_learns_86 ?_
        refine wp_iadd dX12_learns_87 ?_
        refine wp_iload dX12_learns_88 rfl ?_
        refine wp_iadd dX12_learns_90 ?_
        refine wp_aload_n dX12_learns_91 rfl rfl ?_
        refine wp_getR dX12_learns_92 lX12_70 rfl (mO t3.1.1) (mR_key t3.1.1) ?_
        refine wp_aload_n dX12_learns_95 rfl rfl ?_
        refine wp_getR dX12_learns_96 lX12_98 rfl (mO t3.1.1) (mR_coverRule t3.1.1) ?_
        refine wp_iload_n dX12_learns_99 rfl rfl ?_
        refine wp_ialdV dX12_learns_100 (mA_coverRule t3.1.1) rfl ⟨by omega, by decide⟩ ((congrFun eI180_3 k).trans ex9) ?_
        refine wp_laldV dX12_learns_101 (mA_key t3.1.1) rfl ⟨by omega, by decide⟩ (rl3.2.2.1 x9 (by omega)).1.1 ?_
        refine wp_iload dX12_learns_102 rfl ?_
        refine wp_cS2 0 0 [some _, none, some _] dX12_learns_104 tX12_itemOf sX12_itemOf lX12_403 ⟨by decide, by decide⟩ (Nat.le_of_ble_eq_true rfl) (Nat.le_of_ble_eq_true rfl) rfl ?_
        refine pX12_itemOf (rl3.2.2.1 x9 hx9).1.2 (by omega) ?_
        intro _ _
        refine wp_i2l dX12_learns_107 ?_
        refine wp_lastT dX12_learns_108 t3 (isN_add (isN_add (isN_add rfl rfl) (isN_mul rfl rfl)) rfl) (by omega) (congrArg (fun z => (itm (kI z _)).toInt64) kx9) (fun hh4 t4 f4 => ?_)
        have rl4 := rl3.fr f4 (by decide) (by decide)
        have cv4 := cv3.fr f4 (by decide) (by decide)
        have eI180_4 := (f4.Ir (by decide) (by decide)).trans eI180_3
        refine wp_iinc1 (ls1 := [_, _, _, _, some _]) dX12_learns_109 rfl (by decide) rfl ?_
        refine wp_goto dX12_learns_112 ?_
        refine wp_iload dX12_learns_71 rfl ?_
        refine wp_iconst (v := (nI 4)) dX12_learns_73 (by decide +kernel) ?_
        refine wp_icmp_ge dX12_learns_74 (fun _ => ?_) (fun q => absurd (by decide +kernel) q)
        refine wp_iinc1 (ls1 := [_, _, _, some _, _]) dX12_learns_115 rfl (by decide) rfl ?_
        refine wp_goto dX12_learns_118 ?_
        refine ih (k + 1) _ _ (by omega) (((((hf1.up (by decide) (by decide)).tr (f1.up (by decide) (by decide))).tr (f2.up (by decide) (by decide))).tr (f3.up (by decide) (by decide))).tr (f4.up (by decide) (by decide))) rl4 cv4 ?_ (by omega)
        rw [show 4 * (k + 1) = 4 * k + (3 + 1) by omega, ← lnB_s (w := 3) (k := k) (i := 655 + 70 * f + 2 + 4 * k + 3) (by decide) rfl, ← lnB_s (w := 2) (k := k) (i := 655 + 70 * f + 2 + 4 * k + 2) (by decide) rfl, ← lnB_s (w := 1) (k := k) (i := 655 + 70 * f + 2 + 4 * k + 1) (by decide) rfl, ← lnB_s (w := 0) (k := k) (i := 655 + 70 * f + 2 + 4 * k + 0) (by decide) rfl]
        exact t4
  exact hloop (L.length + 1) 0 x4 h (by omega) mFr.rf rl cv ht (by omega)
set_option maxRecDepth 20000 in
theorem learn_d {h : mH} {Q : Option Value → mH → Prop} {r : Nat → Int64} {F : Nat} {pa my : Nat → Int32} {pr : Nat → Nat → Int64} {a u : Nat} {bx : Nat → Nat → Int64} {kp tp : Nat → Int32} {t : Nat} {tf tl : Int32} {f n : Nat} {K : Nat → Nat} {L : List Nat} {x4 : Option Value} (ht : mT h (lnS r f L 4) F pa my pr a u bx kp tp t tf tl) (hf : f < 4) (cv : cvR h n K L) (sh : shR h r f) (hq : ∀ h1, mFr (mP [] [162]) h h1 → mT h1 (lnS r f L 44) F pa my pr a u bx kp tp t tf tl → Q (some (.int (nI L.length))) h1) : Wp mX12_learns 8 200 153 [some (.ref 153), some (.int (nI f)), some (.int (nI (655 + 70 * f))), some (.int (nI 0)), x4] [] h Q := by
  have hloop : ∀  (t9 : Nat) (k : Nat) (x4 : Option Value) (h1 : mH), (k ≤ 40) → (mFr (mP [] [162]) h h1) → (cvR h1 n K L) → (shR h1 r f) → (mT h1 (lnS r f L (4 + k)) F pa my pr a u bx kp tp t tf tl) → (40 < k + t9) → Wp mX12_learns 8 200 153 [some (.ref 153), some (.int (nI f)), some (.int (nI (655 + 70 * f))), some (.int (nI k)), x4] [] h1 Q := by
    intro t9
    induction t9 with
    | zero => intros; omega
    | succ t9 ih =>
      intro k x4 h1 hk hf1 cv1 sh1 t1 hmz
      refine wp_iload_n dX12_learns_153 rfl rfl ?_
      refine wp_bipush (v := (nI 40)) dX12_learns_154 (by decide +kernel) ?_
      refine wp_icmp_geN dX12_learns_156 rfl rfl ⟨by omega, by omega⟩ (fun c1 => ?_) (fun c1 => ?_)
      · refine wp_aload_n dX12_learns_184 rfl rfl ?_
        refine wp_getIV dX12_learns_185 lX12_425 rfl (mO t1.1.1) cv1.1 ?_
        refine wp_ireturn dX12_learns_188 rfl ?_
        have e9 : k = 40 := by omega
        subst e9
        exact hq _ hf1 t1
      · refine wp_aload_n dX12_learns_159 rfl rfl ?_
        refine wp_getR dX12_learns_160 lX12_43 rfl (mO t1.1.1) (mR_now t1.1.1) ?_
        refine wp_iload_n dX12_learns_163 rfl rfl ?_
        refine wp_bipush (v := (nI 30)) dX12_learns_164 (by decide +kernel) ?_
        refine wp_iadd dX12_learns_166 ?_
        refine wp_iload_n dX12_learns_167 rfl rfl ?_
        refine wp_iadd dX12_learns_168 ?_
        refine wp_aload_n dX12_learns_169 rfl rfl ?_
        refine wp_getR dX12_learns_170 lX12_101 rfl (mO t1.1.1) (mR_shape t1.1.1) ?_
        refine wp_iconst (v := (nI 4)) dX12_learns_173 (by decide +kernel) ?_
        refine wp_iload_n dX12_learns_174 rfl rfl ?_
        refine wp_iadd dX12_learns_175 ?_
        refine wp_laldV dX12_learns_176 (mA_shape t1.1.1) (isN_add rfl rfl) ⟨by omega, by decide⟩ (sh1 (4 + k) (by omega)) ?_
        refine wp_lastT dX12_learns_177 t1 (isN_add (isN_add rfl rfl) rfl) (by omega) rfl (fun hh1 t1 f1 => ?_)
        have cv1 := cv1.fr f1 (by decide) (by decide)
        have sh1 := sh1.fr f1 (by decide) (by decide)
        refine wp_iinc1 (ls1 := [_, _, _, some _, _]) dX12_learns_178 rfl (by decide) rfl ?_
        refine wp_goto dX12_learns_181 ?_
        refine ih (k + 1) _ _ (by omega) ((hf1.up (by decide) (by decide)).tr (f1.up (by decide) (by decide))) cv1 sh1 ?_ (by omega)
        rw [show 4 + (k + 1) = (4 + k) + 1 by omega, ← lnS_s (n := 4 + k) (i := 655 + 70 * f + 30 + k) (by omega)]
        exact t1
  exact hloop 41 0 x4 h (by omega) mFr.rf cv sh ht (by omega)
set_option maxRecDepth 20000 in
theorem pX12_learns {h : mH} {Q : Option Value → mH → Prop} {r : Nat → Int64} {F : Nat} {pa my : Nat → Int32} {pr : Nat → Nat → Int64} {a u : Nat} {bx : Nat → Nat → Int64} {kp tp : Nat → Int32} {t : Nat} {tf tl : Int32} {f : Nat} (ht : mT h r F pa my pr a u bx kp tp t tf tl) (hd : sOK r F pa my) (hf : f < F) (hne : exE r f ≠ 0) (hq : ∀ h' L hop, coP r pa my f (exE r f) L hop → L.length ≤ 6 → mFr pwM h h' → mT h' (lnS r f L 44) F pa my pr a u bx kp tp t tf tl → Q (some (.int (nI L.length))) h') : Wp mX12_learns 8 200 0 [some (.ref 153), some (.int (nI f)), none, none, none] [] h Q := by
  have hF4 := hd.f4
  have hP6 := hd.w.1.2
  refine wp_aload_n dX12_learns_0 rfl rfl ?_
  refine wp_iload_n dX12_learns_1 rfl rfl ?_
  refine wp_cV1 7 178 [some _, some _, none] dX12_learns_2 tX12_laysCoverOf rfl (by decide) nX12_laysCoverOf vX12_laysCoverOf lX12_431 ⟨by decide, by decide⟩ (Nat.le_of_ble_eq_true rfl) (mO ht.1.1) (Nat.le_of_ble_eq_true rfl) rfl ?_
  refine pX12_laysCoverOf ht.1 hd (by omega) (fun hh1 n1 K1 O1 L1 p1 f1 nx1 rl1 cv1 eh1 co1 hp1 => ?_)
  intro _ _
  have t1 := ht.fr (f1.up (by decide) (by decide))
  have hL9 := cv1.2.1
  have hn9 := rl1.2.1
  refine wp_aload_n dX12_learns_5 rfl rfl ?_
  refine wp_iload_n dX12_learns_6 rfl rfl ?_
  refine wp_cV1 3 70 [some _, some _, none, none, none] dX12_learns_7 tX12_laysShape rfl (by decide) nX12_laysShape vX12_laysShape lX12_460 ⟨by decide, by decide⟩ (Nat.le_of_ble_eq_true rfl) (mO t1.1.1) (Nat.le_of_ble_eq_true rfl) rfl ?_
  refine pX12_laysShape t1.1 hd nx1 (by omega) hne (fun hh2 f2 sh2 => ?_)
  intro _ _
  have nx2 := nx1.fr f2 (by decide) (by decide)
  have t2 := t1.fr (f2.up (by decide) (by decide))
  have rl2 := rl1.fr f2 (by decide) (by decide)
  have cv2 := cv1.fr f2 (by decide) (by decide)
  refine wp_iload_n dX12_learns_10 rfl rfl ?_
  refine wp_cS1 0 0 [some _] dX12_learns_11 tX12_learntAt sX12_learntAt lX12_443 ⟨by decide, by decide⟩ (Nat.le_of_ble_eq_true rfl) (Nat.le_of_ble_eq_true rfl) rfl ?_
  refine pX12_learntAt ?_
  intro _ _
  refine wp_istore_n (ls1 := [_, _, some _, _, _]) dX12_learns_14 rfl (by decide) rfl ?_
  refine wp_iconst (v := (nI 0)) dX12_learns_15 (by decide +kernel) ?_
  refine wp_istore_n (ls1 := [_, _, _, some _, _]) dX12_learns_16 rfl (by decide) rfl ?_
  refine learn_a t2 (by omega) (fun x3 hh3 f3 t3 => ?_)
  have nx3 := nx2.fr f3 (by decide) (by decide)
  have rl3 := rl2.fr f3 (by decide) (by decide)
  have cv3 := cv2.fr f3 (by decide) (by decide)
  have sh3 := sh2.fr f3 (by decide) (by decide)
  refine wp_aload_n dX12_learns_38 rfl rfl ?_
  refine wp_getR dX12_learns_39 lX12_43 rfl (mO t3.1.1) (mR_now t3.1.1) ?_
  refine wp_iload_n dX12_learns_42 rfl rfl ?_
  refine wp_lconst (v := 1) dX12_learns_43 (by decide +kernel) ?_
  refine wp_lastT dX12_learns_44 t3 rfl (by omega) rfl (fun hh4 t4 f4 => ?_)
  have nx4 := nx3.fr f4 (by decide) (by decide)
  have rl4 := rl3.fr f4 (by decide) (by decide)
  have cv4 := cv3.fr f4 (by decide) (by decide)
  have sh4 := sh3.fr f4 (by decide) (by decide)
  refine wp_aload_n dX12_learns_45 rfl rfl ?_
  refine wp_getR dX12_learns_46 lX12_43 rfl (mO t4.1.1) (mR_now t4.1.1) ?_
  refine wp_iload_n dX12_learns_49 rfl rfl ?_
  refine wp_iconst (v := (nI 1)) dX12_learns_50 (by decide +kernel) ?_
  refine wp_iadd dX12_learns_51 ?_
  refine wp_aload_n dX12_learns_52 rfl rfl ?_
  refine wp_getIV dX12_learns_53 lX12_425 rfl (mO t4.1.1) cv4.1 ?_
  refine wp_i2l dX12_learns_56 ?_
  refine wp_lastT dX12_learns_57 t4 (isN_add rfl rfl) (by omega) rfl (fun hh5 t5 f5 => ?_)
  have nx5 := nx4.fr f5 (by decide) (by decide)
  have rl5 := rl4.fr f5 (by decide) (by decide)
  have cv5 := cv4.fr f5 (by decide) (by decide)
  have sh5 := sh4.fr f5 (by decide) (by decide)
  refine wp_iconst (v := (nI 0)) dX12_learns_58 (by decide +kernel) ?_
  refine wp_istore_n (ls1 := [_, _, _, some _, _]) dX12_learns_59 rfl (by decide) rfl ?_
  refine learn_b (L := L1) (r := r) (by rw [← lnB_0, ← nI_l (show L1.length < 2147483648 by omega)]; exact t5) (by omega) rl5 cv5 (fun x6 hh6 f6 cv6 t6 => ?_)
  have nx6 := nx5.fr f6 (by decide) (by decide)
  have rl6 := rl5.fr f6 (by decide) (by decide)
  have sh6 := sh5.fr f6 (by decide) (by decide)
  rw [← lnS_0] at t6
  refine wp_iconst (v := (nI 0)) dX12_learns_121 (by decide +kernel) ?_
  refine wp_istore_n (ls1 := [_, _, _, some _, _]) dX12_learns_122 rfl (by decide) rfl ?_
  refine wp_iload_n dX12_learns_123 rfl rfl ?_
  refine wp_iconst (v := (nI 4)) dX12_learns_124 (by decide +kernel) ?_
  refine wp_icmp_ge dX12_learns_125 (fun q => absurd q (by decide +kernel)) (fun _ => ?_)
  refine wp_aload_n dX12_learns_128 rfl rfl ?_
  refine wp_getR dX12_learns_129 lX12_43 rfl (mO t6.1.1) (mR_now t6.1.1) ?_
  refine wp_iload_n dX12_learns_132 rfl rfl ?_
  refine wp_bipush (v := (nI 26)) dX12_learns_133 (by decide +kernel) ?_
  refine wp_iadd dX12_learns_135 ?_
  refine wp_iload_n dX12_learns_136 rfl rfl ?_
  refine wp_iadd dX12_learns_137 ?_
  refine wp_aload_n dX12_learns_138 rfl rfl ?_
  refine wp_getR dX12_learns_139 lX12_101 rfl (mO t6.1.1) (mR_shape t6.1.1) ?_
  refine wp_iload_n dX12_learns_142 rfl rfl ?_
  refine wp_laldV dX12_learns_143 (mA_shape t6.1.1) rfl ⟨by omega, by decide⟩ (sh6 0 (by omega)) ?_
  refine wp_lastT dX12_learns_144 t6 (isN_add (isN_add rfl rfl) rfl) (by omega) rfl (fun hh7 t7 f7 => ?_)
  have nx7 := nx6.fr f7 (by decide) (by decide)
  have rl7 := rl6.fr f7 (by decide) (by decide)
  have cv7 := cv6.fr f7 (by decide) (by decide)
  have sh7 := sh6.fr f7 (by decide) (by decide)
  refine wp_iinc1 (ls1 := [_, _, _, some _, _]) dX12_learns_145 rfl (by decide) rfl ?_
  refine wp_goto dX12_learns_148 ?_
  refine wp_iload_n dX12_learns_123 rfl rfl ?_
  refine wp_iconst (v := (nI 4)) dX12_learns_124 (by decide +kernel) ?_
  refine wp_icmp_ge dX12_learns_125 (fun q => absurd q (by decide +kernel)) (fun _ => ?_)
  refine wp_aload_n dX12_learns_128 rfl rfl ?_
  refine wp_getR dX12_learns_129 lX12_43 rfl (mO t7.1.1) (mR_now t7.1.1) ?_
  refine wp_iload_n dX12_learns_132 rfl rfl ?_
  refine wp_bipush (v := (nI 26)) dX12_learns_133 (by decide +kernel) ?_
  refine wp_iadd dX12_learns_135 ?_
  refine wp_iload_n dX12_learns_136 rfl rfl ?_
  refine wp_iadd dX12_learns_137 ?_
  refine wp_aload_n dX12_learns_138 rfl rfl ?_
  refine wp_getR dX12_learns_139 lX12_101 rfl (mO t7.1.1) (mR_shape t7.1.1) ?_
  refine wp_iload_n dX12_learns_142 rfl rfl ?_
  refine wp_laldV dX12_learns_143 (mA_shape t7.1.1) rfl ⟨by omega, by decide⟩ (sh7 1 (by omega)) ?_
  refine wp_lastT dX12_learns_144 t7 (isN_add (isN_add rfl rfl) rfl) (by omega) rfl (fun hh8 t8 f8 => ?_)
  have nx8 := nx7.fr f8 (by decide) (by decide)
  have rl8 := rl7.fr f8 (by decide) (by decide)
  have cv8 := cv7.fr f8 (by decide) (by decide)
  have sh8 := sh7.fr f8 (by decide) (by decide)
  refine wp_iinc1 (ls1 := [_, _, _, some _, _]) dX12_learns_145 rfl (by decide) rfl ?_
  refine wp_goto dX12_learns_148 ?_
  refine wp_iload_n dX12_learns_123 rfl rfl ?_
  refine wp_iconst (v := (nI 4)) dX12_learns_124 (by decide +kernel) ?_
  refine wp_icmp_ge dX12_learns_125 (fun q => absurd q (by decide +kernel)) (fun _ => ?_)
  refine wp_aload_n dX12_learns_128 rfl rfl ?_
  refine wp_getR dX12_learns_129 lX12_43 rfl (mO t8.1.1) (mR_now t8.1.1) ?_
  refine wp_iload_n dX12_learns_132 rfl rfl ?_
  refine wp_bipush (v := (nI 26)) dX12_learns_133 (by decide +kernel) ?_
  refine wp_iadd dX12_learns_135 ?_
  refine wp_iload_n dX12_learns_136 rfl rfl ?_
  refine wp_iadd dX12_learns_137 ?_
  refine wp_aload_n dX12_learns_138 rfl rfl ?_
  refine wp_getR dX12_learns_139 lX12_101 rfl (mO t8.1.1) (mR_shape t8.1.1) ?_
  refine wp_iload_n dX12_learns_142 rfl rfl ?_
  refine wp_laldV dX12_learns_143 (mA_shape t8.1.1) rfl ⟨by omega, by decide⟩ (sh8 2 (by omega)) ?_
  refine wp_lastT dX12_learns_144 t8 (isN_add (isN_add rfl rfl) rfl) (by omega) rfl (fun hh9 t9 f9 => ?_)
  have nx9 := nx8.fr f9 (by decide) (by decide)
  have rl9 := rl8.fr f9 (by decide) (by decide)
  have cv9 := cv8.fr f9 (by decide) (by decide)
  have sh9 := sh8.fr f9 (by decide) (by decide)
  refine wp_iinc1 (ls1 := [_, _, _, some _, _]) dX12_learns_145 rfl (by decide) rfl ?_
  refine wp_goto dX12_learns_148 ?_
  refine wp_iload_n dX12_learns_123 rfl rfl ?_
  refine wp_iconst (v := (nI 4)) dX12_learns_124 (by decide +kernel) ?_
  refine wp_icmp_ge dX12_learns_125 (fun q => absurd q (by decide +kernel)) (fun _ => ?_)
  refine wp_aload_n dX12_learns_128 rfl rfl ?_
  refine wp_getR dX12_learns_129 lX12_43 rfl (mO t9.1.1) (mR_now t9.1.1) ?_
  refine wp_iload_n dX12_learns_132 rfl rfl ?_
  refine wp_bipush (v := (nI 26)) dX12_learns_133 (by decide +kernel) ?_
  refine wp_iadd dX12_learns_135 ?_
  refine wp_iload_n dX12_learns_136 rfl rfl ?_
  refine wp_iadd dX12_learns_137 ?_
  refine wp_aload_n dX12_learns_138 rfl rfl ?_
  refine wp_getR dX12_learns_139 lX12_101 rfl (mO t9.1.1) (mR_shape t9.1.1) ?_
  refine wp_iload_n dX12_learns_142 rfl rfl ?_
  refine wp_laldV dX12_learns_143 (mA_shape t9.1.1) rfl ⟨by omega, by decide⟩ (sh9 3 (by omega)) ?_
  refine wp_lastT dX12_learns_144 t9 (isN_add (isN_add rfl rfl) rfl) (by omega) rfl (fun hh10 t10 f10 => ?_)
  have nx10 := nx9.fr f10 (by decide) (by decide)
  have rl10 := rl9.fr f10 (by decide) (by decide)
  have cv10 := cv9.fr f10 (by decide) (by decide)
  have sh10 := sh9.fr f10 (by decide) (by decide)
  refine wp_iinc1 (ls1 := [_, _, _, some _, _]) dX12_learns_145 rfl (by decide) rfl ?_
  refine wp_goto dX12_learns_148 ?_
  refine wp_iload_n dX12_learns_123 rfl rfl ?_
  refine wp_iconst (v := (nI 4)) dX12_learns_124 (by decide +kernel) ?_
  refine wp_icmp_ge dX12_learns_125 (fun _ => ?_) (fun q => absurd (by decide +kernel) q)
  refine wp_iconst (v := (nI 0)) dX12_learns_151 (by decide +kernel) ?_
  refine wp_istore_n (ls1 := [_, _, _, some _, _]) dX12_learns_152 rfl (by decide) rfl ?_
  refine learn_d (L := L1) (by rw [← lnS_s (n := 3) (i := 655 + 70 * f + 26 + 3) rfl, ← lnS_s (n := 2) (i := 655 + 70 * f + 26 + 2) rfl, ← lnS_s (n := 1) (i := 655 + 70 * f + 26 + 1) rfl, ← lnS_s (n := 0) (i := 655 + 70 * f + 26 + 0) rfl]; exact t10) (by omega) cv10 sh10 (fun hh11 f11 t11 => ?_)
  exact hq _ _ _ co1 hL9 (((((((((((f1.mM (by decide)).tr (f2.mM (by decide))).tr (f3.mM (by decide))).tr (f4.mM (by decide))).tr (f5.mM (by decide))).tr (f6.mM (by decide))).tr (f7.mM (by decide))).tr (f8.mM (by decide))).tr (f9.mM (by decide))).tr (f10.mM (by decide))).tr (f11.mM (by decide))) t11
set_option maxRecDepth 20000 in
theorem pX12_learn {h : mH} {Q : Option Value → mH → Prop} {r : Nat → Int64} {F : Nat} {pa my : Nat → Int32} {pr : Nat → Nat → Int64} {a u : Nat} {bx : Nat → Nat → Int64} {kp tp : Nat → Int32} {t : Nat} {tf tl : Int32} {x : Int32} (ht : mT h r F pa my pr a u bx kp tp t tf tl) (hd : sOK r F pa my) (h0 : (ix x F = none ∨ ∃ f, ix x F = some f ∧ exE r f = 0) → Q (some (.int (-1))) h) (hq : ∀ f L hop, ix x F = some f → exE r f ≠ 0 → coP r pa my f (exE r f) L hop → L.length ≤ 6 → ∀ h', mFr pwM h h' → mT h' (lnS r f L 44) F pa my (actP pr r a) (actN a) 0 bx kp tp t tf tl → Q (some (.int (nI L.length))) h') : Wp mX12_learn 9 224 0 [some (.ref 153), some (.int x)] [] h Q := by
  have hF4 := hd.f4
  have hP6 := hd.w.1.2
  refine wp_aload_n dX12_learn_0 rfl rfl ?_
  refine wp_iload_n dX12_learn_1 rfl rfl ?_
  refine wp_cV1 1 22 [some _, some _] dX12_learn_2 tX12_isField rfl (by decide) nX12_isField vX12_isField lX12_299 ⟨by decide, by decide⟩ (Nat.le_of_ble_eq_true rfl) (mO ht.1.1) (Nat.le_of_ble_eq_true rfl) rfl ?_
  refine pX12_isField' ht.1 hd (fun j1 hj1 ej1 => ?_) (fun nj1 => ?_)
  · subst ej1
    have xs1 := ix_nI hj1 (by omega)
    intro _ _
    refine wp_if_eq dX12_learn_5 (fun q => absurd q (by decide +kernel)) (fun _ => ?_)
    refine wp_aload_n dX12_learn_8 rfl rfl ?_
    refine wp_iload_n dX12_learn_9 rfl rfl ?_
    refine wp_cV1 2 43 [some _, some _, none, none] dX12_learn_10 tX12_examples rfl (by decide) nX12_examples vX12_examples lX12_407 ⟨by decide, by decide⟩ (Nat.le_of_ble_eq_true rfl) (mO ht.1.1) (Nat.le_of_ble_eq_true rfl) rfl ?_
    refine pX12_examplesN ht.1 hd (by omega) ?_
    intro _ _
    refine wp_if_neN dX12_learn_13 rfl (by have := exE_lt (f := j1) hd; omega) (fun c2 => ?_) (fun c2 => ?_)
    · refine wp_aload_n dX12_learn_18 rfl rfl ?_
      refine wp_cV0 0 0 [some _, none] dX12_learn_19 tX12_act rfl (by decide) nX12_act vX12_act lX12_258 ⟨by decide, by decide⟩ (Nat.le_of_ble_eq_true rfl) (mO ht.1.1) (Nat.le_of_ble_eq_true rfl) rfl ?_
      refine pX12_act' ht (fun hh2 f2 t2 => ?_)
      intro _ _
      refine wp_aload_n dX12_learn_22 rfl rfl ?_
      refine wp_iload_n dX12_learn_23 rfl rfl ?_
      refine wp_cV1 8 200 [some _, some _, none, none, none] dX12_learn_24 tX12_learns rfl (by decide) nX12_learns vX12_learns lX12_457 ⟨by decide, by decide⟩ (Nat.le_of_ble_eq_true rfl) (mO t2.1.1) (Nat.le_of_ble_eq_true rfl) rfl ?_
      refine pX12_learns t2 hd (by omega) (by omega) (fun hh3 L3 p3 co3 le3 f3 t3 => ?_)
      intro _ _
      refine wp_ireturn dX12_learn_27 rfl ?_
      exact hq _ _ _ xs1 (by omega) co3 le3 _ ((f2.mM (by decide)).tr f3) t3
    · refine wp_iconst (v := (-1)) dX12_learn_16 (by decide +kernel) ?_
      refine wp_ireturn dX12_learn_17 rfl ?_
      first | exact h0 (Or.inl (by assumption)) | exact h0 (Or.inr ⟨_, xs1, by omega⟩)
  · have xn1 := ix_none (by omega) nj1
    intro _ _
    refine wp_if_eq dX12_learn_5 (fun _ => ?_) (fun q => absurd q (by decide +kernel))
    refine wp_iconst (v := (-1)) dX12_learn_16 (by decide +kernel) ?_
    refine wp_ireturn dX12_learn_17 rfl ?_
    first | exact h0 (Or.inl (by assumption)) | exact h0 (Or.inr ⟨_, xs1, by omega⟩)
