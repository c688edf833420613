/-! ===== the model's whole state; acts, marks, images ===== -/
def up1 (r : Nat → Int64) (k : Nat) (v : Int64) : Nat → Int64 := fun y => if y = k then v else r y
def pastR (h : mH) (i : Nat) : Nat → Int64 := fun y => if y < 935 then hL h 166 (935 * i + y) else 0
def boxR (h : mH) (i : Nat) : Nat → Int64 := fun y => if y < 935 then hL h 190 (935 * i + y) else 0
def mT (h : mH) (r : Nat → Int64) (F : Nat) (pa my : Nat → Int32) (pr : Nat → Nat → Int64) (a u : Nat) (bx : Nat → Nat → Int64) (kp tp : Nat → Int32) (t : Nat) (tf tl : Int32) : Prop := mC h r F pa my ∧ (∀ y, 935 ≤ y → r y = 0) ∧ (∀ i, i < 16 → pastR h i = pr i) ∧ hI h 153 28 = nI a ∧ hI h 153 29 = nI u ∧ a + u ≤ 16 ∧ (∀ b, b < 2 → boxR h b = bx b) ∧ hI h 191 = kp ∧ hI h 154 = tp ∧ (hI h 153 1 = nI t ∧ t ≤ 900) ∧ hI h 153 9 = tf ∧ hI h 153 10 = tl
section MT
variable {h h1 : mH} {r : Nat → Int64} {F : Nat} {pa my : Nat → Int32} {pr : Nat → Nat → Int64} {a u : Nat} {bx : Nat → Nat → Int64} {kp tp : Nat → Int32} {t : Nat} {tf tl : Int32}
theorem mT.zz (q : mT h r F pa my pr a u bx kp tp t tf tl) : ∀ y, 935 ≤ y → r y = 0 := q.2.1
theorem mT.pp (q : mT h r F pa my pr a u bx kp tp t tf tl) : ∀ i, i < 16 → pastR h i = pr i := q.2.2.1
theorem mT.aa (q : mT h r F pa my pr a u bx kp tp t tf tl) : hI h 153 28 = nI a := q.2.2.2.1
theorem mT.uu (q : mT h r F pa my pr a u bx kp tp t tf tl) : hI h 153 29 = nI u := q.2.2.2.2.1
theorem mT.au (q : mT h r F pa my pr a u bx kp tp t tf tl) : a + u ≤ 16 := q.2.2.2.2.2.1
theorem mT.bb (q : mT h r F pa my pr a u bx kp tp t tf tl) : ∀ b, b < 2 → boxR h b = bx b := q.2.2.2.2.2.2.1
theorem mT.kk (q : mT h r F pa my pr a u bx kp tp t tf tl) : hI h 191 = kp := q.2.2.2.2.2.2.2.1
theorem mT.tt (q : mT h r F pa my pr a u bx kp tp t tf tl) : hI h 154 = tp := q.2.2.2.2.2.2.2.2.1
theorem mT.t9 (q : mT h r F pa my pr a u bx kp tp t tf tl) : hI h 153 1 = nI t ∧ t ≤ 900 := q.2.2.2.2.2.2.2.2.2.1
theorem mT.ff (q : mT h r F pa my pr a u bx kp tp t tf tl) : hI h 153 9 = tf := q.2.2.2.2.2.2.2.2.2.2.1
theorem mT.ll (q : mT h r F pa my pr a u bx kp tp t tf tl) : hI h 153 10 = tl := q.2.2.2.2.2.2.2.2.2.2.2
theorem pastR_eq {i : Nat} (e : hL h1 166 = hL h 166) : pastR h1 i = pastR h i := by
  unfold pastR
  rw [e]
theorem boxR_eq {i : Nat} (e : hL h1 190 = hL h 190) : boxR h1 i = boxR h i := by
  unfold boxR
  rw [e]
/-- what calls that only read leave -/
theorem mT.fr (q : mT h r F pa my pr a u bx kp tp t tf tl) (f : mFr pwS h h1) : mT h1 r F pa my pr a u bx kp tp t tf tl :=
  ⟨q.1.fr f (by decide) (by decide) (by decide) (by decide) (by decide), q.zz, fun i hi => (pastR_eq (f.Lr (by decide) (by decide))).trans (q.pp i hi), (f.fI 28 (by decide) (by decide)).trans q.aa, (f.fI 29 (by decide) (by decide)).trans q.uu, q.au, fun b hb => (boxR_eq (f.Lr (by decide) (by decide))).trans (q.bb b hb), (f.Ir (by decide) (by decide)).trans q.kk, (f.Ir (by decide) (by decide)).trans q.tt, ⟨(f.fI 1 (by decide) (by decide)).trans q.t9.1, q.t9.2⟩, (f.fI 9 (by decide) (by decide)).trans q.ff, (f.fI 10 (by decide) (by decide)).trans q.ll⟩
theorem mT.set (q : mT h r F pa my pr a u bx kp tp t tf tl) {k : Nat} (hk : k < 935) (v : Int64) : mT (sL h 162 k v) (up1 r k v) F pa my pr a u bx kp tp t tf tl := by
  refine ⟨⟨q.1.1, ?_, q.1.2.2.1, q.1.2.2.2⟩, fun y hy => ?_, q.pp, q.aa, q.uu, q.au, q.bb, q.kk, q.tt, q.t9, q.ff, q.ll⟩
  · funext y
    rw [hL_sL, ← q.1.2.1]
    unfold up1
    by_cases e : y = k
    · rw [if_pos ⟨rfl, e⟩, if_pos e]
    · rw [if_neg (fun z => e z.2), if_neg e]
  · unfold up1
    rw [if_neg (by omega)]
    exact q.zz y hy
end MT
theorem wp_lastT {M : mM} {fr lo pc pc1 : Nat} {ls : List (Option Value)} {st : List Value} {h : mH} {Q : Option Value → mH → Prop} {r : Nat → Int64} {F : Nat} {pa my : Nat → Int32} {pr : Nat → Nat → Int64} {a u : Nat} {bx : Nat → Nat → Int64} {kp tp : Nat → Int32} {t : Nat} {tf tl : Int32} {j : Nat} {i : Int32} {x v : Int64} (hd : At M.2.1 pc (.lastore) 1 pc1) (ht : mT h r F pa my pr a u bx kp tp t tf tl) (e : i = nI j) (hj : j < 935) (ev : x = v) (k9 : ∀ h', mT h' (up1 r j v) F pa my pr a u bx kp tp t tf tl → mFr (mP [] [162]) h h' → Wp M fr lo pc1 ls st h' Q) : Wp M fr lo pc ls (.long x :: .int i :: .ref 162 :: st) h Q := by
  subst ev
  exact wp_lastN hd (mA_now ht.1.1) e ⟨hj, by decide⟩ (k9 _ (ht.set hj x) (mFr.rf.sL _ (Or.inr (by decide))))
/-- all of the model's cells -/
def pwM (x _y : Nat) : Prop := 153 ≤ x ∧ x ≤ 191
theorem mFr.mM {F A : List Nat} {h h1 : mH} (a : mFr (mP F A) h h1) (q : ∀ k ∈ A, 153 ≤ k ∧ k ≤ 191) : mFr pwM h h1 := a.mono (fun x y z => z.elim (fun w => by unfold pwM; omega) (fun w => q _ w))
def actN (a : Nat) : Nat := if a = 16 then 16 else a + 1
def actP (pr : Nat → Nat → Int64) (r : Nat → Int64) (a : Nat) : Nat → Nat → Int64 := if a = 16 then (fun i => if i < 15 then pr (i + 1) else r) else fun i => if i = a then r else pr i
theorem actB_mT {h : mH} {r : Nat → Int64} {F : Nat} {pa my : Nat → Int32} {pr : Nat → Nat → Int64} {bx : Nat → Nat → Int64} {kp tp : Nat → Int32} {t : Nat} {tf tl : Int32} {k : Nat} (hc : mC h r F pa my) (hz : ∀ y, 935 ≤ y → r y = 0) (hp : ∀ i, i < 16 → i ≠ k → pastR h i = pr i) (hk : k ≤ 15) (hb : ∀ b, b < 2 → boxR h b = bx b) (h191 : hI h 191 = kp) (h154 : hI h 154 = tp) (h1 : hI h 153 1 = nI t ∧ t ≤ 900) (h9 : hI h 153 9 = tf) (h10 : hI h 153 10 = tl) : mT (actB h k) r F pa my (fun i => if i = k then r else pr i) (k + 1) 0 bx kp tp t tf tl := by
  refine ⟨⟨hc.1, ?_, hc.2.2.1, hc.2.2.2.1, hc.2.2.2.2⟩, hz, fun i hi => ?_, rfl, rfl, by omega, fun b hb9 => ?_, h191, h154, h1, h9, h10⟩
  · exact (show hL (actB h k) 162 = hL (cpL h 162 0 166 (935 * k) 935) 162 from rfl).trans ((cpL_oth (by decide)).trans hc.2.1)
  · have e : hL (actB h k) 166 = hL (cpL h 162 0 166 (935 * k) 935) 166 := rfl
    funext y
    unfold pastR
    rw [e]
    by_cases hik : i = k
    · subst hik
      show _ = (if i = i then r else pr i) y
      rw [if_pos rfl]
      by_cases hy : y < 935
      · rw [if_pos hy, cpL_in (by omega) (by omega), hc.2.1, show 0 + (935 * i + y - 935 * i) = y by omega]
      · rw [if_neg hy, hz y (by omega)]
    · show _ = (if i = k then r else pr i) y
      rw [if_neg hik, ← hp i hi hik]
      unfold pastR
      by_cases hy : y < 935
      · rw [if_pos hy, if_pos hy, cpL_out (by omega)]
      · rw [if_neg hy, if_neg hy]
  · exact (boxR_eq (show hL (actB h k) 190 = hL h 190 from (show hL (actB h k) 190 = hL (cpL h 162 0 166 (935 * k) 935) 190 from rfl).trans (cpL_oth (by decide)))).trans (hb b hb9)
theorem actB_fr {h : mH} {k : Nat} : mFr (mP [28, 29] [166]) h (actB h k) := by
  refine mFr.tr (h1 := cpL h 162 0 166 (935 * k) 935) ⟨rfl, rfl, fun _ => rfl, fun _ _ => rfl, fun x y q => ⟨rfl, ?_⟩⟩ ((mFr.rf.sI _ (Or.inl ⟨rfl, by decide⟩)).sI _ (Or.inl ⟨rfl, by decide⟩))
  rw [cpL_oth (fun e => q (Or.inr (by rw [e]; decide)))]
set_option maxRecDepth 20000 in
theorem pX12_act' {h : mH} {Q : Option Value → mH → Prop} {r : Nat → Int64} {F : Nat} {pa my : Nat → Int32} {pr : Nat → Nat → Int64} {a u : Nat} {bx : Nat → Nat → Int64} {kp tp : Nat → Int32} {t : Nat} {tf tl : Int32}  (ht : mT h r F pa my pr a u bx kp tp t tf tl) (hq : ∀ h', mFr (mP [28, 29] [166]) h h' → mT h' r F pa my (actP pr r a) (actN a) 0 bx kp tp t tf tl → Q none h') : Wp mX12_act 0 0 0 [some (.ref 153), none] [] h Q := by
  have hc := ht.1
  have h16 := ht.au
  refine pX12_act hc.1 (by omega) ht.aa ?_
  unfold actH
  by_cases e : a = 16
  · subst e
    rw [if_pos rfl]
    have hcp : mFr (mP [28, 29] [166]) h (sI (cpL h 166 935 166 0 14025) 153 28 (nI 15)) := by
      refine mFr.tr (h1 := cpL h 166 935 166 0 14025) ⟨rfl, rfl, fun _ => rfl, fun _ _ => rfl, fun x y q => ⟨rfl, ?_⟩⟩ (mFr.rf.sI _ (Or.inl ⟨rfl, by decide⟩))
      rw [cpL_oth (fun e => q (Or.inr (by rw [e]; decide)))]
    refine hq _ (hcp.tr actB_fr) ?_
    have e1 : actP pr r 16 = fun i => if i = 15 then r else (fun i => if i < 15 then pr (i + 1) else r) i := by
      unfold actP
      rw [if_pos rfl]
      funext i
      by_cases hi : i = 15
      · rw [if_pos hi, if_neg (by omega)]
      · rw [if_neg hi]
    rw [e1]
    refine actB_mT (hc.fr hcp (by decide) (by decide) (by decide) (by decide) (by decide)) ht.zz (fun i hi hne => ?_) (by decide) (fun b hb => (boxR_eq (hcp.Lr (by decide) (by decide))).trans (ht.bb b hb)) ht.kk ht.tt ht.t9 ht.ff ht.ll
    show pastR _ i = if i < 15 then pr (i + 1) else r
    rw [if_pos (by omega), ← ht.pp (i + 1) (by omega)]
    funext y
    unfold pastR
    by_cases hy : y < 935
    · rw [if_pos hy, if_pos hy]
      show hL (cpL h 166 935 166 0 14025) 166 (935 * i + y) = _
      rw [cpL_in (by omega) (by omega)]
      congr 1
      omega
    · rw [if_neg hy, if_neg hy]
  · rw [if_neg e]
    refine hq _ actB_fr ?_
    unfold actP actN
    rw [if_neg e, if_neg e]
    exact actB_mT hc ht.zz (fun i hi _ => ht.pp i hi) (by omega) ht.bb ht.kk ht.tt ht.t9 ht.ff ht.ll

/-- the row with a part more -/
def mkR (r : Nat → Int64) (f p i j : Nat) : Nat → Int64 := up1 (up1 (up1 r (rX f p + 1 + 2 * rM r f p) (lN i)) (rX f p + 2 + 2 * rM r f p) (lN j)) (rX f p) (lN (rM r f p + 1))
set_option maxRecDepth 20000 in
theorem pX12_mark {h : mH} {Q : Option Value → mH → Prop} {r : Nat → Int64} {F : Nat} {pa my : Nat → Int32} {pr : Nat → Nat → Int64} {a u : Nat} {bx : Nat → Nat → Int64} {kp tp : Nat → Int32} {t : Nat} {tf tl : Int32} {x y v w : Int32} (ht : mT h r F pa my pr a u bx kp tp t tf tl) (hd : sOK r F pa my) (h0 : ¬ cMk r F pa my x y v w → Q (some (.int (-1))) h) (h1 : ∀ p f i j, p < rP r → f < F → i < rT r p → j < rT r p + 1 → x = nI p → y = nI f → v = nI i → w = nI j → okM r pa my f p i j → ∀ h', mFr pwM h h' → mT h' (mkR r f p i j) F pa my (actP pr r a) (actN a) 0 bx kp tp t tf tl → Q (some (.int (nI (rM r f p + 1)))) h') : Wp mX12_mark 3 69 0 [some (.ref 153), some (.int x), some (.int y), some (.int v), some (.int w), none, none] [] h Q := by
  have hc := ht.1
  have hF4 := hd.f4
  have hP6 := hd.w.1.2
  refine wp_aload_n dX12_mark_0 rfl rfl ?_
  refine wp_iload_n dX12_mark_1 rfl rfl ?_
  refine wp_iload_n dX12_mark_2 rfl rfl ?_
  refine wp_iload_n dX12_mark_3 rfl rfl ?_
  refine wp_iload dX12_mark_4 rfl ?_
  refine wp_cV4 2 44 [some _, some _, some _, some _, some _, none] dX12_mark_6 tX12_canMark rfl (by decide) nX12_canMark vX12_canMark lX12_312 ⟨by decide, by decide⟩ (Nat.le_of_ble_eq_true rfl) (mO ht.1.1) (Nat.le_of_ble_eq_true rfl) rfl ?_
  refine pX12_canMark ht.1 hd (fun p f i j hp hf hi hj e1 e2 e3 e4 ho => ?_) (fun hno => ?_)
  · subst e1
    subst e2
    subst e3
    subst e4
    have hX : rX f p + 17 ≤ 655 := by unfold rX; omega
    have hT := (hd.w.2.1 p (by omega)).2
    have ho2 := ho.2.1
    intro _ _
    refine wp_if_ne dX12_mark_9 (fun _ => ?_) (fun q => absurd q (by decide +kernel))
    refine wp_aload_n dX12_mark_14 rfl rfl ?_
    refine wp_cV0 0 0 [some _, none] dX12_mark_15 tX12_act rfl (by decide) nX12_act vX12_act lX12_258 ⟨by decide, by decide⟩ (Nat.le_of_ble_eq_true rfl) (mO ht.1.1) (Nat.le_of_ble_eq_true rfl) rfl ?_
    refine pX12_act' ht (fun hh1 f1 t1 => ?_)
    intro _ _
    refine wp_iload_n dX12_mark_18 rfl rfl ?_
    refine wp_iload_n dX12_mark_19 rfl rfl ?_
    refine wp_cS2 0 0 [some _, some _] dX12_mark_20 tX12_markAt sX12_markAt lX12_295 ⟨by decide, by decide⟩ (Nat.le_of_ble_eq_true rfl) (Nat.le_of_ble_eq_true rfl) rfl ?_
    refine pX12_markAt ?_
    intro _ _
    refine wp_istore (ls1 := [_, _, _, _, _, some _, _]) dX12_mark_23 (by decide) rfl ?_
    refine wp_aload_n dX12_mark_25 rfl rfl ?_
    refine wp_iload_n dX12_mark_26 rfl rfl ?_
    refine wp_iload_n dX12_mark_27 rfl rfl ?_
    refine wp_cV2 1 21 [some _, some _, some _] dX12_mark_28 tX12_partsOf rfl (by decide) nX12_partsOf vX12_partsOf lX12_302 ⟨by decide, by decide⟩ (Nat.le_of_ble_eq_true rfl) (mO t1.1.1) (Nat.le_of_ble_eq_true rfl) rfl ?_
    refine pX12_partsOf' t1.1 hd (by omega) (by omega) ?_
    intro _ _
    refine wp_istore (ls1 := [_, _, _, _, _, _, some _]) dX12_mark_31 (by decide) rfl ?_
    refine wp_aload_n dX12_mark_33 rfl rfl ?_
    refine wp_getR dX12_mark_34 lX12_43 rfl (mO t1.1.1) (mR_now t1.1.1) ?_
    refine wp_iload dX12_mark_37 rfl ?_
    refine wp_iconst (v := (nI 1)) dX12_mark_39 (by decide +kernel) ?_
    refine wp_iadd dX12_mark_40 ?_
    refine wp_iconst (v := (nI 2)) dX12_mark_41 (by decide +kernel) ?_
    refine wp_iload dX12_mark_42 rfl ?_
    refine wp_imul dX12_mark_44 ?_
    refine wp_iadd dX12_mark_45 ?_
    refine wp_iload_n dX12_mark_46 rfl rfl ?_
    refine wp_i2l dX12_mark_47 ?_
    refine wp_lastT dX12_mark_48 t1 (isN_add (isN_add rfl rfl) (isN_mul rfl rfl)) (by omega) (by first | exact nI_l (by omega) | exact (congrArg Int32.toInt64 (nI_add _ _)).trans (nI_l (by omega))) (fun hh2 t2 f2 => ?_)
    refine wp_aload_n dX12_mark_49 rfl rfl ?_
    refine wp_getR dX12_mark_50 lX12_43 rfl (mO t2.1.1) (mR_now t2.1.1) ?_
    refine wp_iload dX12_mark_53 rfl ?_
    refine wp_iconst (v := (nI 2)) dX12_mark_55 (by decide +kernel) ?_
    refine wp_iadd dX12_mark_56 ?_
    refine wp_iconst (v := (nI 2)) dX12_mark_57 (by decide +kernel) ?_
    refine wp_iload dX12_mark_58 rfl ?_
    refine wp_imul dX12_mark_60 ?_
    refine wp_iadd dX12_mark_61 ?_
    refine wp_iload dX12_mark_62 rfl ?_
    refine wp_i2l dX12_mark_64 ?_
    refine wp_lastT dX12_mark_65 t2 (isN_add (isN_add rfl rfl) (isN_mul rfl rfl)) (by omega) (by first | exact nI_l (by omega) | exact (congrArg Int32.toInt64 (nI_add _ _)).trans (nI_l (by omega))) (fun hh3 t3 f3 => ?_)
    refine wp_aload_n dX12_mark_66 rfl rfl ?_
    refine wp_getR dX12_mark_67 lX12_43 rfl (mO t3.1.1) (mR_now t3.1.1) ?_
    refine wp_iload dX12_mark_70 rfl ?_
    refine wp_iload dX12_mark_72 rfl ?_
    refine wp_iconst (v := (nI 1)) dX12_mark_74 (by decide +kernel) ?_
    refine wp_iadd dX12_mark_75 ?_
    refine wp_i2l dX12_mark_76 ?_
    refine wp_lastT dX12_mark_77 t3 rfl (by omega) (by first | exact nI_l (by omega) | exact (congrArg Int32.toInt64 (nI_add _ _)).trans (nI_l (by omega))) (fun hh4 t4 f4 => ?_)
    refine wp_iload dX12_mark_78 rfl ?_
    refine wp_iconst (v := (nI 1)) dX12_mark_80 (by decide +kernel) ?_
    refine wp_iadd dX12_mark_81 ?_
    refine wp_ireturn dX12_mark_82 rfl ?_
    rw [nI_add]
    exact h1 p f i j hp hf hi hj rfl rfl rfl rfl ho _ ((((f1.mM (by decide)).tr (f2.mM (by decide))).tr (f3.mM (by decide))).tr (f4.mM (by decide))) t4
  · intro _ _
    refine wp_if_ne dX12_mark_9 (fun q => absurd q (by decide +kernel)) (fun _ => ?_)
    refine wp_iconst (v := (-1)) dX12_mark_12 (by decide +kernel) ?_
    refine wp_ireturn dX12_mark_13 rfl ?_
    exact h0 hno
