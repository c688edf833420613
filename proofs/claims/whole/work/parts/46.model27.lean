/-! ===== how many rules can be; two that contradict ===== -/
def enP (r : Nat → Int64) (pa : Nat → Int32) (f S n : Nat) (K : Nat → Nat) : Prop := n ≤ 9594 ∧ (∀ i, i < n → K i < 1099511627776) ∧ (∀ i j, i < n → j < n → K i = K j → i = j) ∧ (∀ p, p < 6 → S.testBit p = true → ∀ k, bNr r pa f p k → ∃ i, i < n ∧ K i = k) ∧ ∀ i, i < n → ∃ p, p < 6 ∧ S.testBit p = true ∧ bNr r pa f p (K i)
theorem ruL.en {h : mH} {r : Nat → Int64} {pa my : Nat → Int32} {f S n : Nat} {K O : Nat → Nat} (q : ruL h r pa my f S n K O) : enP r pa f S n K := ⟨q.2.1, fun i hi => (q.2.2.1 i hi).1.2, q.2.2.2.1, q.2.2.2.2.2.1, q.2.2.2.2.2.2⟩
def cntB (P : Nat → Bool) : Nat → Nat
  | 0 => 0
  | k + 1 => cntB P k + (if P k = true then 1 else 0)
theorem cntB_le {P : Nat → Bool} : ∀ k, cntB P k ≤ k
  | 0 => Nat.le_refl _
  | k + 1 => by
    have := cntB_le (P := P) k
    unfold cntB
    split <;> omega
theorem cntB_s1 {P : Nat → Bool} {k : Nat} (h : P k = true) : cntB P (k + 1) = cntB P k + 1 := by
  show cntB P k + _ = _
  rw [if_pos h]
theorem cntB_s0 {P : Nat → Bool} {k : Nat} (h : P k = false) : cntB P (k + 1) = cntB P k + 0 := by
  show cntB P k + _ = _
  rw [if_neg (by rw [h]; decide)]
def exE (r : Nat → Int64) (f : Nat) : Nat := exN r f (rP r)
theorem exE_lt {r : Nat → Int64} {F : Nat} {pa my : Nat → Int32} {f : Nat} (hd : sOK r F pa my) : exE r f < 64 := exN_lt r f _ hd.w.1.2
theorem exE_tb {r : Nat → Int64} {f p : Nat} (h : (exE r f).testBit p = true) : p < rP r ∧ 0 < rM r f p := of_decide_eq_true ((exN_tb r f (rP r) p).symm.trans h)
theorem exE_of {r : Nat → Int64} {f p : Nat} (h : p < rP r ∧ 0 < rM r f p) : (exE r f).testBit p = true := (exN_tb r f (rP r) p).trans (decide_eq_true h)
def spCould (r : Nat → Int64) (F : Nat) (pa my : Nat → Int32) (x w v : Int32) : Prop := match ix x F, ix w 2 with
  | some f, some j => ∃ n K, enP r pa f (exE r f) n K ∧ v = nI (if j = 0 then n else cntB (fun i => decide (tvm r pa my f (exE r f) 2 (K i) 6 = 0)) n)
  | _, _ => v = -1
def spContra (r : Nat → Int64) (F : Nat) (pa my : Nat → Int32) (x y z v : Int32) : Prop := match ix x F, ix y (rP r), ix z (rP r) with
  | some f, some p, some q => if p = q ∨ rM r f p = 0 ∨ rM r f q = 0 then v = -1 else ∃ n K, enP r pa f (2 ^ p ||| 2 ^ q) n K ∧ v = (if (∃ i, i < n ∧ tvm r pa my f (2 ^ p ||| 2 ^ q) 2 (K i) 6 = 0 ∧ tvm r pa my f (2 ^ p ||| 2 ^ q) 1 (K i) 6 ≠ 0) then nI 0 else nI 1)
  | _, _, _ => v = -1
set_option maxRecDepth 20000 in
theorem pX12_examplesN {h : mH} {Q : Option Value → mH → Prop} {r : Nat → Int64} {F : Nat} {pa my : Nat → Int32} {f : Nat} (hc : mC h r F pa my) (hd : sOK r F pa my) (hf : f < 4) (hq : Q (some (.int (nI (exE r f)))) h) : Wp mX12_examples 2 43 0 [some (.ref 153), some (.int (nI f)), none, none] [] h Q := by
  have hF4 := hd.f4
  have hP6 := hd.w.1.2
  exact pX12_examples' hc hd hf (by rw [exS_N r f _ hP6]; exact hq)
set_option maxRecDepth 20000 in
theorem could_loop {h : mH} {Q : Option Value → mH → Prop} {r : Nat → Int64} {F : Nat} {pa my : Nat → Int32} {f S n j : Nat} {K O : Nat → Nat} (hc : mC h r F pa my) (hj : j < 2) (rl : ruL h r pa my f S n K O) (K9 : Q (some (.int (nI (cntB (fun i => decide (j = 0 ∨ tvm r pa my f S 2 (K i) 6 = 0)) n)))) h) : Wp mX12_could 7 178 34 [some (.ref 153), some (.int (nI f)), some (.int (nI j)), some (.int (nI 0)), some (.int (nI 0))] [] h Q := by
  have hn := rl.2.1
  have hloop : ∀  (t : Nat) (i : Nat), (i ≤ n) → (n < i + t) → Wp mX12_could 7 178 34 [some (.ref 153), some (.int (nI f)), some (.int (nI j)), some (.int (nI (cntB (fun i => decide (j = 0 ∨ tvm r pa my f S 2 (K i) 6 = 0)) i))), some (.int (nI i))] [] h Q := by
    intro t
    induction t with
    | zero => intros; omega
    | succ t ih =>
      intro i hi hmz
      refine wp_iload dX12_could_34 rfl ?_
      refine wp_aload_n dX12_could_36 rfl rfl ?_
      refine wp_getIV dX12_could_37 lX12_378 rfl (mO hc.1) rl.1 ?_
      refine wp_icmp_geN dX12_could_40 rfl rfl ⟨by omega, by omega⟩ (fun c1 => ?_) (fun c1 => ?_)
      · refine wp_iload_n dX12_could_74 rfl rfl ?_
        refine wp_ireturn dX12_could_75 rfl ?_
        have e9 : i = n := by omega
        subst e9
        exact K9
      · refine wp_iload_n dX12_could_43 rfl rfl ?_
        refine wp_iload_n dX12_could_44 rfl rfl ?_
        refine wp_if_eqN dX12_could_45 rfl (by omega) (fun c2 => ?_) (fun c2 => ?_)
        · refine wp_iconst (v := (nI 1)) dX12_could_58 (by decide +kernel) ?_
          refine wp_goto dX12_could_59 ?_
          refine wp_cS1 0 0 [some _] dX12_could_63 tX12_truth sX12_truth lX12_320 ⟨by decide, by decide⟩ (Nat.le_of_ble_eq_true rfl) (Nat.le_of_ble_eq_true rfl) rfl ?_
          refine pX12_truth1 ?_
          intro _ _
          refine wp_iadd dX12_could_66 ?_
          refine wp_istore_n (ls1 := [_, _, _, some _, _]) dX12_could_67 rfl (by decide) rfl ?_
          refine wp_iinc1 (ls1 := [_, _, _, _, some _]) dX12_could_68 rfl (by decide) rfl ?_
          refine wp_goto dX12_could_71 ?_
          rw [nI_add, ← cntB_s1 (P := (fun i => decide (j = 0 ∨ tvm r pa my f S 2 (K i) 6 = 0))) (k := i) (decide_eq_true (by first | exact Or.inl (by assumption) | exact Or.inr (by assumption)))]
          exact ih (i + 1) (by omega) (by omega)
        · refine wp_aload_n dX12_could_48 rfl rfl ?_
          refine wp_getR dX12_could_49 lX12_79 rfl (mO hc.1) (mR_wrongs hc.1) ?_
          refine wp_iload dX12_could_52 rfl ?_
          refine wp_ialdV dX12_could_54 (mA_wrongs hc.1) rfl ⟨by omega, by decide⟩ (rl.2.2.1 i (by omega)).2.2.2 ?_
          refine wp_if_neN dX12_could_55 rfl (by have := tvm_lt (r := r) (pa := pa) (my := my) (f := f) (S := S) (v := 2) (k := K i) 6 (by omega); omega) (fun c3 => ?_) (fun c3 => ?_)
          · refine wp_iconst (v := (nI 0)) dX12_could_62 (by decide +kernel) ?_
            refine wp_cS1 0 0 [some _] dX12_could_63 tX12_truth sX12_truth lX12_320 ⟨by decide, by decide⟩ (Nat.le_of_ble_eq_true rfl) (Nat.le_of_ble_eq_true rfl) rfl ?_
            refine pX12_truth0 ?_
            intro _ _
            refine wp_iadd dX12_could_66 ?_
            refine wp_istore_n (ls1 := [_, _, _, some _, _]) dX12_could_67 rfl (by decide) rfl ?_
            refine wp_iinc1 (ls1 := [_, _, _, _, some _]) dX12_could_68 rfl (by decide) rfl ?_
            refine wp_goto dX12_could_71 ?_
            rw [nI_add, ← cntB_s0 (P := (fun i => decide (j = 0 ∨ tvm r pa my f S 2 (K i) 6 = 0))) (k := i) (decide_eq_false (by omega))]
            exact ih (i + 1) (by omega) (by omega)
          · refine wp_iconst (v := (nI 1)) dX12_could_58 (by decide +kernel) ?_
            refine wp_goto dX12_could_59 ?_
            refine wp_cS1 0 0 [some _] dX12_could_63 tX12_truth sX12_truth lX12_320 ⟨by decide, by decide⟩ (Nat.le_of_ble_eq_true rfl) (Nat.le_of_ble_eq_true rfl) rfl ?_
            refine pX12_truth1 ?_
            intro _ _
            refine wp_iadd dX12_could_66 ?_
            refine wp_istore_n (ls1 := [_, _, _, some _, _]) dX12_could_67 rfl (by decide) rfl ?_
            refine wp_iinc1 (ls1 := [_, _, _, _, some _]) dX12_could_68 rfl (by decide) rfl ?_
            refine wp_goto dX12_could_71 ?_
            rw [nI_add, ← cntB_s1 (P := (fun i => decide (j = 0 ∨ tvm r pa my f S 2 (K i) 6 = 0))) (k := i) (decide_eq_true (by first | exact Or.inl (by assumption) | exact Or.inr (by assumption)))]
            exact ih (i + 1) (by omega) (by omega)
  exact hloop (n + 1) 0 (by omega) (by omega)
theorem cntB_all {P : Nat → Bool} : ∀ n, (∀ i, i < n → P i = true) → cntB P n = n
  | 0, _ => rfl
  | n + 1, h => by
    unfold cntB
    rw [cntB_all n (fun i hi => h i (by omega)), if_pos (h n (by omega))]
theorem cntB_cg {P P' : Nat → Bool} : ∀ n, (∀ i, i < n → P i = P' i) → cntB P n = cntB P' n
  | 0, _ => rfl
  | n + 1, h => by
    unfold cntB
    rw [cntB_cg n (fun i hi => h i (by omega)), h n (by omega)]
set_option maxRecDepth 20000 in
theorem pX12_could {h : mH} {Q : Option Value → mH → Prop} {r : Nat → Int64} {F : Nat} {pa my : Nat → Int32} {x w : Int32} (hc : mC h r F pa my) (hd : sOK r F pa my) (hq : ∀ v h', mFr pwS h h' → spCould r F pa my x w v → Q (some (.int v)) h') : Wp mX12_could 7 178 0 [some (.ref 153), some (.int x), some (.int w), none, none] [] h Q := by
  have hF4 := hd.f4
  have hP6 := hd.w.1.2
  refine wp_aload_n dX12_could_0 rfl rfl ?_
  refine wp_iload_n dX12_could_1 rfl rfl ?_
  refine wp_cV1 1 22 [some _, some _] dX12_could_2 tX12_isField rfl (by decide) nX12_isField vX12_isField lX12_299 ⟨by decide, by decide⟩ (Nat.le_of_ble_eq_true rfl) (mO hc.1) (Nat.le_of_ble_eq_true rfl) rfl ?_
  refine pX12_isField' hc hd (fun j1 hj1 ej1 => ?_) (fun nj1 => ?_)
  · subst ej1
    have xs1 := ix_nI hj1 (by omega)
    intro _ _
    refine wp_if_eq dX12_could_5 (fun q => absurd q (by decide +kernel)) (fun _ => ?_)
    refine wp_iload_n dX12_could_8 rfl rfl ?_
    refine wp_iconst (v := (nI 0)) dX12_could_9 (by decide +kernel) ?_
    refine wp_iconst (v := (nI 1)) dX12_could_10 (by decide +kernel) ?_
    refine wp_cS3 0 0 [some _, some _, some _] dX12_could_11 tX12_isIn sX12_isIn lX12_147 ⟨by decide, by decide⟩ (Nat.le_of_ble_eq_true rfl) (Nat.le_of_ble_eq_true rfl) rfl ?_
    refine pX12_isIn (fun i2 => ?_) (fun i2 => ?_)
    · obtain ⟨j2, hj2, ej2⟩ := (ixM (by decide)).mp i2
      subst ej2
      have xs2 := ix_nI (n := 2) (show j2 < 2 by omega) (by decide)
      intro _ _
      refine wp_if_ne dX12_could_14 (fun _ => ?_) (fun q => absurd q (by decide +kernel))
      refine wp_aload_n dX12_could_19 rfl rfl ?_
      refine wp_iload_n dX12_could_20 rfl rfl ?_
      refine wp_aload_n dX12_could_21 rfl rfl ?_
      refine wp_iload_n dX12_could_22 rfl rfl ?_
      refine wp_cV1 2 43 [some _, some _, none, none] dX12_could_23 tX12_examples rfl (by decide) nX12_examples vX12_examples lX12_407 ⟨by decide, by decide⟩ (Nat.le_of_ble_eq_true rfl) (mO hc.1) (Nat.le_of_ble_eq_true rfl) rfl ?_
      refine pX12_examplesN hc hd (by omega) ?_
      intro _ _
      refine wp_cV2 6 153 [some _, some _, some _, none, none, none] dX12_could_26 tX12_laysRules rfl (by decide) nX12_laysRules vX12_laysRules lX12_410 ⟨by decide, by decide⟩ (Nat.le_of_ble_eq_true rfl) (mO hc.1) (Nat.le_of_ble_eq_true rfl) rfl ?_
      refine pX12_laysRules hc hd (by omega) (exE_lt hd) (fun p hp => exE_tb hp) (fun hh3 n3 K3 O3 f3 nx3 rl3 => ?_)
      intro _ _
      have mc3 := hc.fr f3 (by decide) (by decide) (by decide) (by decide) (by decide)
      refine wp_iconst (v := (nI 0)) dX12_could_29 (by decide +kernel) ?_
      refine wp_istore_n (ls1 := [_, _, _, some _, _]) dX12_could_30 rfl (by decide) rfl ?_
      refine wp_iconst (v := (nI 0)) dX12_could_31 (by decide +kernel) ?_
      refine wp_istore (ls1 := [_, _, _, _, some _]) dX12_could_32 (by decide) rfl ?_
      refine could_loop mc3 (by omega) rl3 (hq _ _ (f3.up (by decide) (by decide)) ?_)
      unfold spCould
      rw [xs1, xs2]
      refine ⟨n3, K3, rl3.en, congrArg nI ?_⟩
      split
      · exact cntB_all _ (fun i hi => decide_eq_true (Or.inl (by assumption)))
      · exact cntB_cg _ (fun i hi => decide_eq_decide.mpr ⟨fun z => z.elim (fun z => absurd z (by assumption)) id, Or.inr⟩)
    · have xn2 := ix_none (n := 2) (by decide) (fun j hj ej => i2 ((ixM (by decide)).mpr ⟨j, by omega, ej⟩))
      intro _ _
      refine wp_if_ne dX12_could_14 (fun q => absurd q (by decide +kernel)) (fun _ => ?_)
      refine wp_iconst (v := (-1)) dX12_could_17 (by decide +kernel) ?_
      refine wp_ireturn dX12_could_18 rfl ?_
      refine hq _ _ mFr.rf ?_
      simp only [spCould, *]
  · have xn1 := ix_none (by omega) nj1
    intro _ _
    refine wp_if_eq dX12_could_5 (fun _ => ?_) (fun q => absurd q (by decide +kernel))
    refine wp_iconst (v := (-1)) dX12_could_17 (by decide +kernel) ?_
    refine wp_ireturn dX12_could_18 rfl ?_
    refine hq _ _ mFr.rf ?_
    simp only [spCould, *]
set_option maxRecDepth 20000 in
theorem contra_loop {h : mH} {Q : Option Value → mH → Prop} {r : Nat → Int64} {F : Nat} {pa my : Nat → Int32} {f S n p q : Nat} {K O : Nat → Nat} (hc : mC h r F pa my) (rl : ruL h r pa my f S n K O) (K0 : (∃ i9, i9 < n ∧ tvm r pa my f S 2 (K i9) 6 = 0 ∧ tvm r pa my f S 1 (K i9) 6 ≠ 0) → Q (some (.int (nI 0))) h) (K1 : ¬ (∃ i9, i9 < n ∧ tvm r pa my f S 2 (K i9) 6 = 0 ∧ tvm r pa my f S 1 (K i9) 6 ≠ 0) → Q (some (.int (nI 1))) h) : Wp mX12_contradict 7 178 64 [some (.ref 153), some (.int (nI f)), some (.int (nI p)), some (.int (nI q)), some (.int (nI 0))] [] h Q := by
  have hn := rl.2.1
  have hloop : ∀  (t : Nat) (i : Nat), (i ≤ n) → (¬ (∃ i9, i9 < i ∧ tvm r pa my f S 2 (K i9) 6 = 0 ∧ tvm r pa my f S 1 (K i9) 6 ≠ 0)) → (n < i + t) → Wp mX12_contradict 7 178 64 [some (.ref 153), some (.int (nI f)), some (.int (nI p)), some (.int (nI q)), some (.int (nI i))] [] h Q := by
    intro t
    induction t with
    | zero => intros; omega
    | succ t ih =>
      intro i hi hno hmz
      refine wp_iload dX12_contradict_64 rfl ?_
      refine wp_aload_n dX12_contradict_66 rfl rfl ?_
      refine wp_getIV dX12_contradict_67 lX12_378 rfl (mO hc.1) rl.1 ?_
      refine wp_icmp_geN dX12_contradict_70 rfl rfl ⟨by omega, by omega⟩ (fun c1 => ?_) (fun c1 => ?_)
      · refine wp_iconst (v := (nI 1)) dX12_contradict_101 (by decide +kernel) ?_
        refine wp_ireturn dX12_contradict_102 rfl ?_
        have e9 : i = n := by omega
        subst e9
        exact K1 hno
      · refine wp_aload_n dX12_contradict_73 rfl rfl ?_
        refine wp_getR dX12_contradict_74 lX12_79 rfl (mO hc.1) (mR_wrongs hc.1) ?_
        refine wp_iload dX12_contradict_77 rfl ?_
        refine wp_ialdV dX12_contradict_79 (mA_wrongs hc.1) rfl ⟨by omega, by decide⟩ (rl.2.2.1 i (by omega)).2.2.2 ?_
        refine wp_if_neN dX12_contradict_80 rfl (by have := tvm_lt (r := r) (pa := pa) (my := my) (f := f) (S := S) (v := 2) (k := K i) 6 (by omega); omega) (fun c2 => ?_) (fun c2 => ?_)
        · refine wp_iinc1 (ls1 := [_, _, _, _, some _]) dX12_contradict_95 rfl (by decide) rfl ?_
          refine wp_goto dX12_contradict_98 ?_
          refine ih (i + 1) (by omega) ?_ (by omega)
          rintro ⟨j9, hj9, z1, z2⟩
          by_cases e9 : j9 = i
          · subst e9; omega
          · exact hno ⟨j9, by omega, z1, z2⟩
        · refine wp_aload_n dX12_contradict_83 rfl rfl ?_
          refine wp_getR dX12_contradict_84 lX12_76 rfl (mO hc.1) (mR_rights hc.1) ?_
          refine wp_iload dX12_contradict_87 rfl ?_
          refine wp_ialdV dX12_contradict_89 (mA_rights hc.1) rfl ⟨by omega, by decide⟩ (rl.2.2.1 i (by omega)).2.2.1 ?_
          refine wp_if_eqN dX12_contradict_90 rfl (by have := tvm_lt (r := r) (pa := pa) (my := my) (f := f) (S := S) (v := 1) (k := K i) 6 (by omega); omega) (fun c3 => ?_) (fun c3 => ?_)
          · refine wp_iinc1 (ls1 := [_, _, _, _, some _]) dX12_contradict_95 rfl (by decide) rfl ?_
            refine wp_goto dX12_contradict_98 ?_
            refine ih (i + 1) (by omega) ?_ (by omega)
            rintro ⟨j9, hj9, z1, z2⟩
            by_cases e9 : j9 = i
            · subst e9; omega
            · exact hno ⟨j9, by omega, z1, z2⟩
          · refine wp_iconst (v := (nI 0)) dX12_contradict_93 (by decide +kernel) ?_
            refine wp_ireturn dX12_contradict_94 rfl ?_
            exact K0 ⟨i, by omega, by assumption, by omega⟩
  exact hloop (n + 1) 0 (by omega) (fun ⟨_, z, _⟩ => by omega) (by omega)
theorem two_tb {p q z : Nat} (h : (2 ^ p ||| 2 ^ q).testBit z = true) : z = p ∨ z = q := by
  rw [Nat.testBit_or, tb_two, tb_two, Bool.or_eq_true, decide_eq_true_iff, decide_eq_true_iff] at h
  omega
set_option maxRecDepth 20000 in
theorem pX12_contradict {h : mH} {Q : Option Value → mH → Prop} {r : Nat → Int64} {F : Nat} {pa my : Nat → Int32} {x y z : Int32} (hc : mC h r F pa my) (hd : sOK r F pa my) (hq : ∀ v h', mFr pwS h h' → spContra r F pa my x y z v → Q (some (.int v)) h') : Wp mX12_contradict 7 178 0 [some (.ref 153), some (.int x), some (.int y), some (.int z), none] [] h Q := by
  have hF4 := hd.f4
  have hP6 := hd.w.1.2
  refine wp_aload_n dX12_contradict_0 rfl rfl ?_
  refine wp_iload_n dX12_contradict_1 rfl rfl ?_
  refine wp_cV1 1 22 [some _, some _] dX12_contradict_2 tX12_isField rfl (by decide) nX12_isField vX12_isField lX12_299 ⟨by decide, by decide⟩ (Nat.le_of_ble_eq_true rfl) (mO hc.1) (Nat.le_of_ble_eq_true rfl) rfl ?_
  refine pX12_isField' hc hd (fun j1 hj1 ej1 => ?_) (fun nj1 => ?_)
  · subst ej1
    have xs1 := ix_nI hj1 (by omega)
    intro _ _
    refine wp_if_eq dX12_contradict_5 (fun q => absurd q (by decide +kernel)) (fun _ => ?_)
    refine wp_aload_n dX12_contradict_8 rfl rfl ?_
    refine wp_iload_n dX12_contradict_9 rfl rfl ?_
    refine wp_cV1 1 22 [some _, some _] dX12_contradict_10 tX12_isPage rfl (by decide) nX12_isPage vX12_isPage lX12_286 ⟨by decide, by decide⟩ (Nat.le_of_ble_eq_true rfl) (mO hc.1) (Nat.le_of_ble_eq_true rfl) rfl ?_
    refine pX12_isPage' hc hd (fun j2 hj2 ej2 => ?_) (fun nj2 => ?_)
    · subst ej2
      have xs2 := ix_nI hj2 (by omega)
      intro _ _
      refine wp_if_eq dX12_contradict_13 (fun q => absurd q (by decide +kernel)) (fun _ => ?_)
      refine wp_aload_n dX12_contradict_16 rfl rfl ?_
      refine wp_iload_n dX12_contradict_17 rfl rfl ?_
      refine wp_cV1 1 22 [some _, some _] dX12_contradict_18 tX12_isPage rfl (by decide) nX12_isPage vX12_isPage lX12_286 ⟨by decide, by decide⟩ (Nat.le_of_ble_eq_true rfl) (mO hc.1) (Nat.le_of_ble_eq_true rfl) rfl ?_
      refine pX12_isPage' hc hd (fun j3 hj3 ej3 => ?_) (fun nj3 => ?_)
      · subst ej3
        have xs3 := ix_nI hj3 (by omega)
        intro _ _
        refine wp_if_eq dX12_contradict_21 (fun q => absurd q (by decide +kernel)) (fun _ => ?_)
        refine wp_iload_n dX12_contradict_24 rfl rfl ?_
        refine wp_iload_n dX12_contradict_25 rfl rfl ?_
        refine wp_icmp_eqN dX12_contradict_26 rfl rfl ⟨by omega, by omega⟩ (fun c4 => ?_) (fun c4 => ?_)
        · refine wp_iconst (v := (-1)) dX12_contradict_47 (by decide +kernel) ?_
          refine wp_ireturn dX12_contradict_48 rfl ?_
          refine hq _ _ mFr.rf ?_
          unfold spContra
          first | (simp only [*]; done) | (simp only [xs1, xs2, xs3]; rw [if_pos (by omega)]; trivial)
        · refine wp_aload_n dX12_contradict_29 rfl rfl ?_
          refine wp_iload_n dX12_contradict_30 rfl rfl ?_
          refine wp_iload_n dX12_contradict_31 rfl rfl ?_
          refine wp_cV2 1 21 [some _, some _, some _] dX12_contradict_32 tX12_partsOf rfl (by decide) nX12_partsOf vX12_partsOf lX12_302 ⟨by decide, by decide⟩ (Nat.le_of_ble_eq_true rfl) (mO hc.1) (Nat.le_of_ble_eq_true rfl) rfl ?_
          refine pX12_partsOf' hc hd (by omega) (by omega) ?_
          intro _ _
          refine wp_if_eqN dX12_contradict_35 rfl (by have h9 := (hd.w.2.2 j1 j2 (by omega) (by omega)).1.2; omega) (fun c5 => ?_) (fun c5 => ?_)
          · refine wp_iconst (v := (-1)) dX12_contradict_47 (by decide +kernel) ?_
            refine wp_ireturn dX12_contradict_48 rfl ?_
            refine hq _ _ mFr.rf ?_
            unfold spContra
            first | (simp only [*]; done) | (simp only [xs1, xs2, xs3]; rw [if_pos (by omega)]; trivial)
          · refine wp_aload_n dX12_contradict_38 rfl rfl ?_
            refine wp_iload_n dX12_contradict_39 rfl rfl ?_
            refine wp_iload_n dX12_contradict_40 rfl rfl ?_
            refine wp_cV2 1 21 [some _, some _, some _] dX12_contradict_41 tX12_partsOf rfl (by decide) nX12_partsOf vX12_partsOf lX12_302 ⟨by decide, by decide⟩ (Nat.le_of_ble_eq_true rfl) (mO hc.1) (Nat.le_of_ble_eq_true rfl) rfl ?_
            refine pX12_partsOf' hc hd (by omega) (by omega) ?_
            intro _ _
            refine wp_if_neN dX12_contradict_44 rfl (by have h9 := (hd.w.2.2 j1 j3 (by omega) (by omega)).1.2; omega) (fun c6 => ?_) (fun c6 => ?_)
            · refine wp_aload_n dX12_contradict_49 rfl rfl ?_
              refine wp_iload_n dX12_contradict_50 rfl rfl ?_
              refine wp_iconst (v := (nI 1)) dX12_contradict_51 (by decide +kernel) ?_
              refine wp_iload_n dX12_contradict_52 rfl rfl ?_
              refine wp_ishl dX12_contradict_53 ?_
              refine wp_iconst (v := (nI 1)) dX12_contradict_54 (by decide +kernel) ?_
              refine wp_iload_n dX12_contradict_55 rfl rfl ?_
              refine wp_ishl dX12_contradict_56 ?_
              refine wp_ior dX12_contradict_57 ?_
              rw [nx_shl1 (by omega), nx_shl1 (by omega), nx_or]
              refine wp_cV2 6 153 [some _, some _, some _, none, none, none] dX12_contradict_58 tX12_laysRules rfl (by decide) nX12_laysRules vX12_laysRules lX12_410 ⟨by decide, by decide⟩ (Nat.le_of_ble_eq_true rfl) (mO hc.1) (Nat.le_of_ble_eq_true rfl) rfl ?_
              refine pX12_laysRules hc hd (by omega) (lt64_or (two_lt (by omega)) (two_lt (by omega))) (fun p9 hp9 => (two_tb hp9).elim (fun e9 => by rw [e9]; exact ⟨by omega, by omega⟩) (fun e9 => by rw [e9]; exact ⟨by omega, by omega⟩)) (fun hh4 n4 K4 O4 f4 nx4 rl4 => ?_)
              intro _ _
              have mc4 := hc.fr f4 (by decide) (by decide) (by decide) (by decide) (by decide)
              refine wp_iconst (v := (nI 0)) dX12_contradict_61 (by decide +kernel) ?_
              refine wp_istore (ls1 := [_, _, _, _, some _]) dX12_contradict_62 (by decide) rfl ?_
              refine contra_loop mc4 rl4 (fun ex9 => hq _ _ (f4.up (by decide) (by decide)) ?_) (fun ex9 => hq _ _ (f4.up (by decide) (by decide)) ?_) <;> unfold spContra <;> rw [xs1, xs2, xs3] <;> simp only [] <;> rw [if_neg (by omega)]
              · exact ⟨n4, K4, rl4.en, (if_pos ex9).symm⟩
              · exact ⟨n4, K4, rl4.en, (if_neg ex9).symm⟩
            · refine wp_iconst (v := (-1)) dX12_contradict_47 (by decide +kernel) ?_
              refine wp_ireturn dX12_contradict_48 rfl ?_
              refine hq _ _ mFr.rf ?_
              unfold spContra
              first | (simp only [*]; done) | (simp only [xs1, xs2, xs3]; rw [if_pos (by omega)]; trivial)
      · have xn3 := ix_none (by omega) nj3
        intro _ _
        refine wp_if_eq dX12_contradict_21 (fun _ => ?_) (fun q => absurd q (by decide +kernel))
        refine wp_iconst (v := (-1)) dX12_contradict_47 (by decide +kernel) ?_
        refine wp_ireturn dX12_contradict_48 rfl ?_
        refine hq _ _ mFr.rf ?_
        unfold spContra
        first | (simp only [*]; done) | (simp only [xs1, xs2, xs3]; rw [if_pos (by omega)]; trivial)
    · have xn2 := ix_none (by omega) nj2
      intro _ _
      refine wp_if_eq dX12_contradict_13 (fun _ => ?_) (fun q => absurd q (by decide +kernel))
      refine wp_iconst (v := (-1)) dX12_contradict_47 (by decide +kernel) ?_
      refine wp_ireturn dX12_contradict_48 rfl ?_
      refine hq _ _ mFr.rf ?_
      unfold spContra
      first | (simp only [*]; done) | (simp only [xs1, xs2, xs3]; rw [if_pos (by omega)]; trivial)
  · have xn1 := ix_none (by omega) nj1
    intro _ _
    refine wp_if_eq dX12_contradict_5 (fun _ => ?_) (fun q => absurd q (by decide +kernel))
    refine wp_iconst (v := (-1)) dX12_contradict_47 (by decide +kernel) ?_
    refine wp_ireturn dX12_contradict_48 rfl ?_
    refine hq _ _ mFr.rf ?_
    unfold spContra
    first | (simp only [*]; done) | (simp only [xs1, xs2, xs3]; rw [if_pos (by omega)]; trivial)
