/-! ===== unmark, image, back, undo, redo ===== -/
def undF (pa : Nat → Int32) : Nat → Nat → Nat → Bool
  | 0, _, _ => false
  | n + 1, k, top => if k = top then true else if pa k = -1 then false else undF pa n (nOfI (pa k)) top
/-- whether a field is one, or lies under it -/
def und (pa : Nat → Int32) (f top : Nat) : Bool := undF pa 4 f top
def zr (r : Nat → Int64) (s n : Nat) : Nat → Int64 := fun y => if s ≤ y ∧ y < s + n then 0 else r y
theorem zr_0 (r : Nat → Int64) (s : Nat) : zr r s 0 = r := by
  funext y
  unfold zr
  rw [if_neg (by omega)]
theorem zr_succ (r : Nat → Int64) (s k : Nat) : up1 (zr r s k) (s + k) 0 = zr r s (k + 1) := by
  funext y
  unfold up1 zr
  by_cases e : y = s + k
  · rw [if_pos e, if_pos (by omega)]
  · rw [if_neg e]
    by_cases e2 : s ≤ y ∧ y < s + k
    · rw [if_pos e2, if_pos (by omega)]
    · rw [if_neg e2, if_neg (by omega)]
theorem nOf_0 : nOf 0 = 0 := rfl
theorem WF_zr {r : Nat → Int64} {s n : Nat} (hw : WF r) : WF (zr r s n) := by
  have h0 : ∀ (y B : Nat), (r y = lN (nOf (r y)) ∧ nOf (r y) ≤ B) → (zr r s n y = lN (nOf (zr r s n y)) ∧ nOf (zr r s n y) ≤ B) := by
    intro y B hy
    unfold zr
    split
    · exact ⟨rfl, Nat.zero_le _⟩
    · exact hy
  exact ⟨h0 0 6 hw.1, fun p hp => h0 _ 40 (hw.2.1 p hp), fun f p hf hp => ⟨h0 _ 8 (hw.2.2 f p hf hp).1, fun i hi => ⟨h0 _ 40 ((hw.2.2 f p hf hp).2 i hi).1, h0 _ 40 ((hw.2.2 f p hf hp).2 i hi).2⟩⟩⟩
/-- the row without the marks of a field on a page, and of those under it -/
def umR (r : Nat → Int64) (pa : Nat → Int32) (f0 p : Nat) : Nat → Nat → Int64
  | 0 => r
  | f + 1 => if und pa f f0 = true then zr (umR r pa f0 p f) (rX f p) 17 else umR r pa f0 p f
def umN (r : Nat → Int64) (pa : Nat → Int32) (f0 p : Nat) : Nat → Nat
  | 0 => 0
  | f + 1 => if und pa f f0 = true then umN r pa f0 p f + rM r f p else umN r pa f0 p f
theorem umR_WF {r : Nat → Int64} {pa : Nat → Int32} {f0 p : Nat} (hw : WF r) : ∀ f, WF (umR r pa f0 p f)
  | 0 => hw
  | f + 1 => by
    unfold umR
    split
    · exact WF_zr (umR_WF hw f)
    · exact umR_WF hw f
theorem umR_ge {r : Nat → Int64} {pa : Nat → Int32} {f0 p y : Nat} : ∀ f, rX f p ≤ y → umR r pa f0 p f y = r y
  | 0, _ => rfl
  | f + 1, h => by
    have h1 : rX f p + 17 ≤ y := by unfold rX at *; omega
    unfold umR
    split
    · unfold zr
      rw [if_neg (by omega)]
      exact umR_ge f (by omega)
    · exact umR_ge f (by omega)
set_option maxRecDepth 20000 in
theorem pX12_isUnder' {h : mH} {Q : Option Value → mH → Prop} {r r0 : Nat → Int64} {F : Nat} {pa my : Nat → Int32} {f top : Nat} (hc : mC h r0 F pa my) (hd : sOK r F pa my) (hf : f < F) (htop : top < F) (ht : und pa f top = true → Q (some (.int (nI 1))) h) (hf9 : und pa f top = false → Q (some (.int (nI 0))) h) : Wp mX12_isUnder 0 0 0 [some (.ref 153), some (.int (nI f)), some (.int (nI top)), none] [] h Q := by
  have hF4 := hd.f4
  have hP6 := hd.w.1.2
  have hloop : ∀  (n : Nat) (k : Nat), (k < n) → (k < F) → (undF pa n k top = und pa f top) → Wp mX12_isUnder 0 0 2 [some (.ref 153), some (.int (nI f)), some (.int (nI top)), some (.int (nI k))] [] h Q := by
    intro n
    induction n with
    | zero => intros; omega
    | succ n ih =>
      intro k hk hkF he
      refine wp_iload_n dX12_isUnder_2 rfl rfl ?_
      refine wp_iconst (v := (-1)) dX12_isUnder_3 (by decide +kernel) ?_
      refine wp_icmp_eq dX12_isUnder_4 (fun q => absurd q (nI_ne_m1 (by omega))) (fun _ => ?_)
      refine wp_iload_n dX12_isUnder_7 rfl rfl ?_
      refine wp_iload_n dX12_isUnder_8 rfl rfl ?_
      refine wp_icmp_neN dX12_isUnder_9 rfl rfl ⟨by omega, by omega⟩ (fun c2 => ?_) (fun c2 => ?_)
      · refine wp_aload_n dX12_isUnder_14 rfl rfl ?_
        refine wp_getR dX12_isUnder_15 lX12_33 rfl (mO hc.1) (mR_parent hc.1) ?_
        refine wp_iload_n dX12_isUnder_18 rfl rfl ?_
        refine wp_ialdV dX12_isUnder_19 (mA_parent hc.1) rfl ⟨by omega, by decide⟩ (congrFun hc.2.2.2.1 _) ?_
        rcases hd.par _ (by omega) with ep1 | ⟨g1, hg1, ep1, mg1⟩
        · rw [ep1]
          refine wp_istore_n (ls1 := [_, _, _, some _]) dX12_isUnder_20 rfl (by decide) rfl ?_
          refine wp_goto dX12_isUnder_21 ?_
          refine wp_iload_n dX12_isUnder_2 rfl rfl ?_
          refine wp_iconst (v := (-1)) dX12_isUnder_3 (by decide +kernel) ?_
          refine wp_icmp_eq dX12_isUnder_4 (fun _ => ?_) (fun q => absurd (by decide +kernel) q)
          refine wp_iconst (v := (nI 0)) dX12_isUnder_24 (by decide +kernel) ?_
          refine wp_zreturn dX12_isUnder_25 rfl (Or.inl rfl) ?_
          refine hf9 ?_
          rw [← he]
          unfold undF
          rw [if_neg (by assumption), if_pos ep1]
        · rw [ep1]
          refine wp_istore_n (ls1 := [_, _, _, some _]) dX12_isUnder_20 rfl (by decide) rfl ?_
          refine wp_goto dX12_isUnder_21 ?_
          refine ih g1 (by omega) (by omega) ?_
          unfold undF at he
          rw [if_neg (show ¬ k = top by assumption), if_neg (by rw [ep1]; exact nI_ne_m1 (by omega)), ep1, nOfI_nI (by omega)] at he
          exact he
      · refine wp_iconst (v := (nI 1)) dX12_isUnder_12 (by decide +kernel) ?_
        refine wp_zreturn dX12_isUnder_13 rfl (Or.inr rfl) ?_
        refine ht ?_
        rw [← he]
        unfold undF
        rw [if_pos (by assumption)]
  refine wp_iload_n dX12_isUnder_0 rfl rfl ?_
  refine wp_istore_n (ls1 := [_, _, _, some _]) dX12_isUnder_1 rfl (by decide) rfl ?_
  exact hloop 4 f (by omega) hf rfl
set_option maxRecDepth 20000 in
theorem unm_loop {h h0 : mH} {Q : Option Value → mH → Prop} {r : Nat → Int64} {F : Nat} {pa my : Nat → Int32} {pr : Nat → Nat → Int64} {a u : Nat} {bx : Nat → Nat → Int64} {kp tp : Nat → Int32} {t : Nat} {tf tl : Int32} {p f0 : Nat} (ht : mT h r F pa my pr a u bx kp tp t tf tl) (hd : sOK r F pa my) (hp : p < rP r) (hf0 : f0 < F) (t0 : mT h0 r F pa my (actP pr r a) (actN a) 0 bx kp tp t tf tl) (f00 : mFr pwM h h0) (hq2 : ∀ h', mFr pwM h h' → mT h' (umR r pa f0 p F) F pa my (actP pr r a) (actN a) 0 bx kp tp t tf tl → Q (some (.int (nI (umN r pa f0 p F)))) h') : Wp mX12_unmark 2 43 36 [some (.ref 153), some (.int (nI p)), some (.int (nI f0)), some (.int (nI 0)), some (.int (nI 0)), none] [] h0 Q := by
  have hc := ht.1
  have hF4 := hd.f4
  have hP6 := hd.w.1.2
  have hin : ∀ (f : Nat) (hf : f < F) (hun : und pa f f0 = true) (n : Nat) (k : Nat) (h1 : mH), (k ≤ 17) → (mFr pwM h h1) → (mT h1 (zr (umR r pa f0 p f) (rX f p) k) F pa my (actP pr r a) (actN a) 0 bx kp tp t tf tl) → (17 < k + n) → (∀ (k9 : Nat) (h2 : mH), mFr pwM h h2 → mT h2 (umR r pa f0 p (f + 1)) F pa my (actP pr r a) (actN a) 0 bx kp tp t tf tl → Wp mX12_unmark 2 43 99 [some (.ref 153), some (.int (nI p)), some (.int (nI f0)), some (.int (nI (umN r pa f0 p (f + 1)))), some (.int (nI f)), some (.int (nI k9))] [] h2 Q) → Wp mX12_unmark 2 43 71 [some (.ref 153), some (.int (nI p)), some (.int (nI f0)), some (.int (nI (umN r pa f0 p (f + 1)))), some (.int (nI f)), some (.int (nI k))] [] h1 Q := by
    intro f hf hun n
    induction n with
    | zero => intros; omega
    | succ n ih =>
      intro k h1 hk hf1 t1 hmz hcont
      have hX : rX f p + 17 ≤ 655 := by unfold rX; omega
      refine wp_iload dX12_unmark_71 rfl ?_
      refine wp_bipush (v := (nI 17)) dX12_unmark_73 (by decide +kernel) ?_
      refine wp_icmp_geN dX12_unmark_75 rfl rfl ⟨by omega, by omega⟩ (fun c1 => ?_) (fun c1 => ?_)
      · refine hcont _ _ hf1 ?_
        rw [show k = 17 by omega] at t1
        unfold umR
        rw [if_pos hun]
        exact t1
      · refine wp_aload_n dX12_unmark_78 rfl rfl ?_
        refine wp_getR dX12_unmark_79 lX12_43 rfl (mO t1.1.1) (mR_now t1.1.1) ?_
        refine wp_iload dX12_unmark_82 rfl ?_
        refine wp_iload_n dX12_unmark_84 rfl rfl ?_
        refine wp_cS2 0 0 [some _, some _] dX12_unmark_85 tX12_markAt sX12_markAt lX12_295 ⟨by decide, by decide⟩ (Nat.le_of_ble_eq_true rfl) (Nat.le_of_ble_eq_true rfl) rfl ?_
        refine pX12_markAt ?_
        intro _ _
        refine wp_iload dX12_unmark_88 rfl ?_
        refine wp_iadd dX12_unmark_90 ?_
        refine wp_lconst (v := 0) dX12_unmark_91 (by decide +kernel) ?_
        refine wp_lastT dX12_unmark_92 t1 (isN_add rfl rfl) (by omega) rfl (fun hh1 t1 f1 => ?_)
        refine wp_iinc1 (ls1 := [_, _, _, _, _, some _]) dX12_unmark_93 rfl (by decide) rfl ?_
        refine wp_goto dX12_unmark_96 ?_
        rw [zr_succ] at t1
        exact ih (k + 1) _ (by omega) (hf1.tr (f1.mM (by decide))) t1 (by omega) hcont
  have hout : ∀  (n : Nat) (f : Nat) (x5 : Option Value) (h1 : mH), (f ≤ F) → (mFr pwM h h1) → (mT h1 (umR r pa f0 p f) F pa my (actP pr r a) (actN a) 0 bx kp tp t tf tl) → (F < f + n) → Wp mX12_unmark 2 43 36 [some (.ref 153), some (.int (nI p)), some (.int (nI f0)), some (.int (nI (umN r pa f0 p f))), some (.int (nI f)), x5] [] h1 Q := by
    intro n
    induction n with
    | zero => intros; omega
    | succ n ih =>
      intro f x5 h1 hf hf1 t1 hmz
      refine wp_iload dX12_unmark_36 rfl ?_
      refine wp_aload_n dX12_unmark_38 rfl rfl ?_
      refine wp_getIV dX12_unmark_39 lX12_137 rfl (mO t1.1.1) t1.1.2.2.1 ?_
      refine wp_icmp_geN dX12_unmark_42 rfl rfl ⟨by omega, by omega⟩ (fun c1 => ?_) (fun c1 => ?_)
      · refine wp_iload_n dX12_unmark_105 rfl rfl ?_
        refine wp_ireturn dX12_unmark_106 rfl ?_
        have e9 : f = F := by omega
        subst e9
        exact hq2 _ hf1 t1
      · refine wp_aload_n dX12_unmark_45 rfl rfl ?_
        refine wp_iload dX12_unmark_46 rfl ?_
        refine wp_iload_n dX12_unmark_48 rfl rfl ?_
        refine wp_cV2 0 0 [some _, some _, some _, none] dX12_unmark_49 tX12_isUnder rfl (by decide) nX12_isUnder vX12_isUnder lX12_316 ⟨by decide, by decide⟩ (Nat.le_of_ble_eq_true rfl) (mO t1.1.1) (Nat.le_of_ble_eq_true rfl) rfl ?_
        refine pX12_isUnder' t1.1 hd (by omega) (by omega) (fun un9 => ?_) (fun un9 => ?_)
        · intro _ _
          refine wp_if_ne dX12_unmark_52 (fun _ => ?_) (fun q => absurd q (by decide +kernel))
          refine wp_iload_n dX12_unmark_58 rfl rfl ?_
          refine wp_aload_n dX12_unmark_59 rfl rfl ?_
          refine wp_iload dX12_unmark_60 rfl ?_
          refine wp_iload_n dX12_unmark_62 rfl rfl ?_
          refine wp_cV2 1 21 [some _, some _, some _] dX12_unmark_63 tX12_partsOf rfl (by decide) nX12_partsOf vX12_partsOf lX12_302 ⟨by decide, by decide⟩ (Nat.le_of_ble_eq_true rfl) (mO t1.1.1) (Nat.le_of_ble_eq_true rfl) rfl ?_
          refine pX12_partsOf t1.1.1 (by rw [t1.1.2.1]; exact umR_WF hd.w f) (by omega) (by omega) ?_
          intro _ _
          rw [t1.1.2.1, show rM (umR r pa f0 p f) f p = rM r f p by unfold rM; rw [umR_ge f (Nat.le_refl _)]]
          refine wp_iadd dX12_unmark_66 ?_
          refine wp_istore_n (ls1 := [_, _, _, some _, _, _]) dX12_unmark_67 rfl (by decide) rfl ?_
          refine wp_iconst (v := (nI 0)) dX12_unmark_68 (by decide +kernel) ?_
          refine wp_istore (ls1 := [_, _, _, _, _, some _]) dX12_unmark_69 (by decide) rfl ?_
          rw [nI_add, show umN r pa f0 p f + rM r f p = umN r pa f0 p (f + 1) by unfold umN; rw [if_pos un9]; cases f <;> rfl]
          refine hin f c1 un9 18 0 _ (by decide) hf1 (by rw [zr_0]; exact t1) (by omega) (fun k9 h2 f2 t2 => ?_)
          refine wp_iinc1 (ls1 := [_, _, _, _, some _, _]) dX12_unmark_99 rfl (by decide) rfl ?_
          refine wp_goto dX12_unmark_102 ?_
          exact ih (f + 1) _ _ (by omega) f2 t2 (by omega)
        · intro _ _
          refine wp_if_ne dX12_unmark_52 (fun q => absurd q (by decide +kernel)) (fun _ => ?_)
          refine wp_goto dX12_unmark_55 ?_
          refine wp_iinc1 (ls1 := [_, _, _, _, some _, _]) dX12_unmark_99 rfl (by decide) rfl ?_
          refine wp_goto dX12_unmark_102 ?_
          have e9 : umN r pa f0 p (f + 1) = umN r pa f0 p f := by
            conv => lhs; unfold umN
            rw [un9]
            rfl
          rw [← e9]
          refine ih (f + 1) _ _ (by omega) hf1 ?_ (by omega)
          have e8 : umR r pa f0 p (f + 1) = umR r pa f0 p f := by
            conv => lhs; unfold umR
            rw [un9]
            rfl
          rw [e8]
          exact t1
  exact hout (F + 1) 0 none _ (by omega) f00 t0 (by omega)
set_option maxRecDepth 20000 in
theorem pX12_unmark {h : mH} {Q : Option Value → mH → Prop} {r : Nat → Int64} {F : Nat} {pa my : Nat → Int32} {pr : Nat → Nat → Int64} {a u : Nat} {bx : Nat → Nat → Int64} {kp tp : Nat → Int32} {t : Nat} {tf tl : Int32} {x y : Int32} (ht : mT h r F pa my pr a u bx kp tp t tf tl) (hd : sOK r F pa my) (h0 : (∀ p f, p < rP r → f < F → x = nI p → y = nI f → rM r f p = 0) → Q (some (.int (-1))) h) (h1 : ∀ p f, p < rP r → f < F → x = nI p → y = nI f → 0 < rM r f p → ∀ h', mFr pwM h h' → mT h' (umR r pa f p F) F pa my (actP pr r a) (actN a) 0 bx kp tp t tf tl → Q (some (.int (nI (umN r pa f p F)))) h') : Wp mX12_unmark 2 43 0 [some (.ref 153), some (.int x), some (.int y), none, none, none] [] h Q := by
  have hc := ht.1
  have hF4 := hd.f4
  have hP6 := hd.w.1.2
  refine wp_aload_n dX12_unmark_0 rfl rfl ?_
  refine wp_iload_n dX12_unmark_1 rfl rfl ?_
  refine wp_cV1 1 22 [some _, some _] dX12_unmark_2 tX12_isPage rfl (by decide) nX12_isPage vX12_isPage lX12_286 ⟨by decide, by decide⟩ (Nat.le_of_ble_eq_true rfl) (mO ht.1.1) (Nat.le_of_ble_eq_true rfl) rfl ?_
  refine pX12_isPage' ht.1 hd (fun j1 hj1 ej1 => ?_) (fun nj1 => ?_)
  · subst ej1
    have xs1 := ix_nI hj1 (by omega)
    intro _ _
    refine wp_if_eq dX12_unmark_5 (fun q => absurd q (by decide +kernel)) (fun _ => ?_)
    refine wp_aload_n dX12_unmark_8 rfl rfl ?_
    refine wp_iload_n dX12_unmark_9 rfl rfl ?_
    refine wp_cV1 1 22 [some _, some _] dX12_unmark_10 tX12_isField rfl (by decide) nX12_isField vX12_isField lX12_299 ⟨by decide, by decide⟩ (Nat.le_of_ble_eq_true rfl) (mO ht.1.1) (Nat.le_of_ble_eq_true rfl) rfl ?_
    refine pX12_isField' ht.1 hd (fun j2 hj2 ej2 => ?_) (fun nj2 => ?_)
    · subst ej2
      have xs2 := ix_nI hj2 (by omega)
      intro _ _
      refine wp_if_eq dX12_unmark_13 (fun q => absurd q (by decide +kernel)) (fun _ => ?_)
      refine wp_aload_n dX12_unmark_16 rfl rfl ?_
      refine wp_iload_n dX12_unmark_17 rfl rfl ?_
      refine wp_iload_n dX12_unmark_18 rfl rfl ?_
      refine wp_cV2 1 21 [some _, some _, some _] dX12_unmark_19 tX12_partsOf rfl (by decide) nX12_partsOf vX12_partsOf lX12_302 ⟨by decide, by decide⟩ (Nat.le_of_ble_eq_true rfl) (mO ht.1.1) (Nat.le_of_ble_eq_true rfl) rfl ?_
      have hM := (hd.w.2.2 _ _ (show j2 < 4 by omega) (show j1 < 6 by omega)).1.2
      refine pX12_partsOf' ht.1 hd (by omega) (by omega) ?_
      intro _ _
      refine wp_if_neN dX12_unmark_22 rfl (by omega) (fun c3 => ?_) (fun c3 => ?_)
      · refine wp_aload_n dX12_unmark_27 rfl rfl ?_
        refine wp_cV0 0 0 [some _, none] dX12_unmark_28 tX12_act rfl (by decide) nX12_act vX12_act lX12_258 ⟨by decide, by decide⟩ (Nat.le_of_ble_eq_true rfl) (mO ht.1.1) (Nat.le_of_ble_eq_true rfl) rfl ?_
        refine pX12_act' ht (fun hh3 f3 t3 => ?_)
        intro _ _
        refine wp_iconst (v := (nI 0)) dX12_unmark_31 (by decide +kernel) ?_
        refine wp_istore_n (ls1 := [_, _, _, some _, _, _]) dX12_unmark_32 rfl (by decide) rfl ?_
        refine wp_iconst (v := (nI 0)) dX12_unmark_33 (by decide +kernel) ?_
        refine wp_istore (ls1 := [_, _, _, _, some _, _]) dX12_unmark_34 (by decide) rfl ?_
        refine unm_loop ht hd hj1 hj2 t3 (f3.mM (by decide)) ?_
        exact h1 j1 j2 hj1 hj2 rfl rfl (by omega)
      · refine wp_iconst (v := (-1)) dX12_unmark_25 (by decide +kernel) ?_
        refine wp_ireturn dX12_unmark_26 rfl ?_
        refine h0 (fun p9 f9 g1 g2 g3 g4 => ?_)
        first | exact (nj1 p9 g1 g3).elim | exact (nj2 f9 g2 g4).elim | (have e1 := (nI_eq (by omega) (by omega)).mp g3; have e2 := (nI_eq (by omega) (by omega)).mp g4; subst e1 e2; assumption)
    · have xn2 := ix_none (by omega) nj2
      intro _ _
      refine wp_if_eq dX12_unmark_13 (fun _ => ?_) (fun q => absurd q (by decide +kernel))
      refine wp_iconst (v := (-1)) dX12_unmark_25 (by decide +kernel) ?_
      refine wp_ireturn dX12_unmark_26 rfl ?_
      refine h0 (fun p9 f9 g1 g2 g3 g4 => ?_)
      first | exact (nj1 p9 g1 g3).elim | exact (nj2 f9 g2 g4).elim | (have e1 := (nI_eq (by omega) (by omega)).mp g3; have e2 := (nI_eq (by omega) (by omega)).mp g4; subst e1 e2; assumption)
  · have xn1 := ix_none (by omega) nj1
    intro _ _
    refine wp_if_eq dX12_unmark_5 (fun _ => ?_) (fun q => absurd q (by decide +kernel))
    refine wp_iconst (v := (-1)) dX12_unmark_25 (by decide +kernel) ?_
    refine wp_ireturn dX12_unmark_26 rfl ?_
    refine h0 (fun p9 f9 g1 g2 g3 g4 => ?_)
    first | exact (nj1 p9 g1 g3).elim | exact (nj2 f9 g2 g4).elim | (have e1 := (nI_eq (by omega) (by omega)).mp g3; have e2 := (nI_eq (by omega) (by omega)).mp g4; subst e1 e2; assumption)
