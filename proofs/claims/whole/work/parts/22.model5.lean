/-! ===== sums, sets, the tape ===== -/
section RulesN2
variable {M : mM} {fr lo pc pc1 t : Nat} {ls : List (Option Value)} {st : List Value} {h : mH} {Q : Option Value → mH → Prop}
theorem wp_if_eqN {x : Int32} {a : Nat} {off : Int} (hd : Aj M.2.1 pc (.ifCond .eq off) off 3 pc1 t) (e : x = nI a) (ha : a < 2147483648) (kt : a = 0 → Wp M fr lo t ls st h Q) (kf : 0 < a → Wp M fr lo pc1 ls st h Q) : Wp M fr lo pc ls (.int x :: st) h Q := by
  subst e
  exact wp_if_eq hd (fun c => kt ((nI_eq ha (by decide)).mp (by rw [c]; rfl))) (fun c => kf (Nat.pos_of_ne_zero (fun q => c (by rw [q]; rfl))))
theorem wp_if_neN {x : Int32} {a : Nat} {off : Int} (hd : Aj M.2.1 pc (.ifCond .ne off) off 3 pc1 t) (e : x = nI a) (ha : a < 2147483648) (kt : 0 < a → Wp M fr lo t ls st h Q) (kf : a = 0 → Wp M fr lo pc1 ls st h Q) : Wp M fr lo pc ls (.int x :: st) h Q := by
  subst e
  exact wp_if_ne hd (fun c => kt (Nat.pos_of_ne_zero (fun q => c (by rw [q]; rfl)))) (fun c => kf ((nI_eq ha (by decide)).mp (by rw [c]; rfl)))
theorem wp_if_leN {x : Int32} {a : Nat} {off : Int} (hd : Aj M.2.1 pc (.ifCond .le off) off 3 pc1 t) (e : x = nI a) (ha : a < 2147483648) (kt : a = 0 → Wp M fr lo t ls st h Q) (kf : 0 < a → Wp M fr lo pc1 ls st h Q) : Wp M fr lo pc ls (.int x :: st) h Q := by
  subst e
  exact wp_if_le hd (fun c => kt (Nat.le_zero.mp ((nI_leI (b := 0) ha (by decide)).mp c))) (fun c => kf (Nat.pos_of_ne_zero (fun q => c (by rw [q]; exact Int32.le_refl 0))))
theorem wp_if_gtN {x : Int32} {a : Nat} {off : Int} (hd : Aj M.2.1 pc (.ifCond .gt off) off 3 pc1 t) (e : x = nI a) (ha : a < 2147483648) (kt : 0 < a → Wp M fr lo t ls st h Q) (kf : a = 0 → Wp M fr lo pc1 ls st h Q) : Wp M fr lo pc ls (.int x :: st) h Q := by
  subst e
  exact wp_if_gt hd (fun c => kt ((nI_ltI (a := 0) (by decide) ha).mp c)) (fun c => kf (Nat.eq_zero_of_not_pos (fun q => c ((nI_ltI (a := 0) (by decide) ha).mpr q))))
end RulesN2
theorem ixM {x : Int32} {m : Nat} (hm : m < 1073741824) : (nI 0 ≤ x ∧ x ≤ nI m) ↔ ∃ j, j ≤ m ∧ x = nI j := by
  have e0 : (nI 0).toInt = 0 := by decide +kernel
  have e1 : (nI m).toInt = (m : Int) := nI_toInt (by omega)
  constructor
  · intro ⟨h1, h2⟩
    rw [Int32.le_iff_toInt_le, e0] at h1
    rw [Int32.le_iff_toInt_le, e1] at h2
    refine ⟨x.toInt.toNat, by omega, ?_⟩
    rw [← Int32.toInt_inj, nI_toInt (by omega)]
    omega
  · intro ⟨j, h1, h2⟩
    subst h2
    rw [Int32.le_iff_toInt_le, Int32.le_iff_toInt_le, e0, e1, nI_toInt (by omega)]
    omega
def sumP (r : Nat → Int64) (f : Nat) : Nat → Nat
  | 0 => 0
  | p + 1 => sumP r f p + rM r f p
def sumF (r : Nat → Int64) (P : Nat) : Nat → Nat
  | 0 => 0
  | f + 1 => sumF r P f + sumP r f P
/-- the pages that are examples of a field, as bits -/
def exS (r : Nat → Int64) (f : Nat) : Nat → Int32
  | 0 => nI 0
  | p + 1 => exS r f p ||| ((if 0 < rM r f p then nI 1 else nI 0) <<< (nI p &&& 31))
/-- the learnt fields, as bits -/
def leS (r : Nat → Int64) : Nat → Int32
  | 0 => nI 0
  | f + 1 => leS r f ||| ((if r (655 + 70 * f) = 1 then nI 1 else nI 0) <<< (nI f &&& 31))
/-- four bytes more on the tape -/
def fourH (h : mH) (t : Nat) (v : Int32) : mH := sI (sI (sI (sI (sI (sI (sI (sI h 154 t (v >>> (nI 24 &&& 31) &&& nI 255)) 153 1 (nI (t + 1))) 154 (t + 1) (v >>> ((nI 24 + Int32.ofInt (-8)) &&& 31) &&& nI 255)) 153 1 (nI (t + 1 + 1))) 154 (t + 1 + 1) (v >>> ((nI 24 + Int32.ofInt (-8) + Int32.ofInt (-8)) &&& 31) &&& nI 255)) 153 1 (nI (t + 1 + 1 + 1))) 154 (t + 1 + 1 + 1) (v >>> ((nI 24 + Int32.ofInt (-8) + Int32.ofInt (-8) + Int32.ofInt (-8)) &&& 31) &&& nI 255)) 153 1 (nI (t + 1 + 1 + 1 + 1))
set_option maxRecDepth 20000 in
theorem pX12_redo {h : mH} {Q : Option Value → mH → Prop} {a u : Nat} (hm : mS h) (hau : a + u ≤ 16) (ha : hI h 153 28 = nI a) (hu : hI h 153 29 = nI u) (h0 : u = 0 → Q (some (.int (nI 0))) h) (h1 : 0 < u → Q (some (.int (nI 1))) (sI (exH (sI h 153 29 (nI (u - 1))) a 935) 153 28 (nI (a + 1)))) : Wp mX12_redo 1 24 0 [some (.ref 153)] [] h Q := by
  refine wp_aload_n dX12_redo_0 rfl rfl ?_
  refine wp_getI dX12_redo_1 lX12_252 rfl (mO hm) ?_
  refine wp_if_neN dX12_redo_4 hu (by omega) (fun c1 => ?_) (fun c1 => ?_)
  · refine wp_aload_n dX12_redo_9 rfl rfl ?_
    refine wp_dup dX12_redo_10 rfl ?_
    refine wp_getI dX12_redo_11 lX12_252 rfl (mO hm) ?_
    refine wp_iconst (v := (nI 1)) dX12_redo_14 (by decide +kernel) ?_
    refine wp_isub dX12_redo_15 ?_
    refine wp_putIN dX12_redo_16 lX12_252 rfl rfl (Or.inl rfl) (mO hm) (isN_sub hu rfl (by omega)) ?_
    refine wp_aload_n dX12_redo_19 rfl rfl ?_
    refine wp_aload_n dX12_redo_20 rfl rfl ?_
    refine wp_getI dX12_redo_21 lX12_249 rfl (mO hm) ?_
    rw [show hI (sI h 153 29 (nI (u - 1))) 153 28 = nI a from ha]
    refine wp_cV1 0 0 [some _, some _, none, none, none] dX12_redo_24 tX12_exchanges rfl (by decide) nX12_exchanges vX12_exchanges lX12_292 ⟨by decide, by decide⟩ (Nat.le_of_ble_eq_true rfl) (mO hm) (Nat.le_of_ble_eq_true rfl) rfl ?_
    refine pX12_exchanges (i := a) hm (by omega) ?_
    intro _ _
    refine wp_aload_n dX12_redo_27 rfl rfl ?_
    refine wp_dup dX12_redo_28 rfl ?_
    refine wp_getI dX12_redo_29 lX12_249 rfl (mO hm) ?_
    refine wp_iconst (v := (nI 1)) dX12_redo_32 (by decide +kernel) ?_
    refine wp_iadd dX12_redo_33 ?_
    refine wp_putIN dX12_redo_34 lX12_249 rfl rfl (Or.inl rfl) (mO hm) (isN_add ha rfl) ?_
    refine wp_iconst (v := (nI 1)) dX12_redo_37 (by decide +kernel) ?_
    refine wp_zreturn dX12_redo_38 rfl (Or.inr rfl) ?_
    exact h1 c1
  · refine wp_iconst (v := (nI 0)) dX12_redo_7 (by decide +kernel) ?_
    refine wp_zreturn dX12_redo_8 rfl (Or.inl rfl) ?_
    exact h0 c1
set_option maxRecDepth 20000 in
theorem pX12_allParts {h : mH} {Q : Option Value → mH → Prop} (hg : mG h) (hq : Q (some (.int (nI (sumF (hL h 162) (rP (hL h 162)) (nF h))))) h) : Wp mX12_allParts 2 43 0 [some (.ref 153), none, none, none] [] h Q := by
  have hP6 := hg.2.1.1.2
  have hF4 := hg.2.2.2
  have hin : ∀ (f : Nat), f < nF h → ∀ (n p : Nat), p ≤ rP (hL h 162) → rP (hL h 162) < p + n → (∀ x3 : Option Value, Wp mX12_allParts 2 43 4 [some (.ref 153), some (.int (nI (sumF (hL h 162) (rP (hL h 162)) (f + 1)))), some (.int (nI (f + 1))), x3] [] h Q) → Wp mX12_allParts 2 43 14 [some (.ref 153), some (.int (nI (sumF (hL h 162) (rP (hL h 162)) f + sumP (hL h 162) f p))), some (.int (nI f)), some (.int (nI p))] [] h Q := by
    intro f hf n
    induction n with
    | zero => intros; omega
    | succ n ih =>
      intro p hp hmz hcont
      have ih := fun p h1 h2 => ih p h1 h2 hcont
      refine wp_iload_n dX12_allParts_14 rfl rfl ?_
      refine wp_aload_n dX12_allParts_15 rfl rfl ?_
      refine wp_cV0 0 0 [some _] dX12_allParts_16 tX12_pages rfl (by decide) nX12_pages vX12_pages lX12_255 ⟨by decide, by decide⟩ (Nat.le_of_ble_eq_true rfl) (mO hg.1) (Nat.le_of_ble_eq_true rfl) rfl ?_
      refine pX12_pages hg.1 hg.2.1 ?_
      intro _ _
      refine wp_icmp_geN dX12_allParts_19 rfl rfl ⟨by omega, by omega⟩ (fun c1 => ?_) (fun c1 => ?_)
      · refine wp_iinc1 (ls1 := [_, _, some _, _]) dX12_allParts_37 rfl (by decide) rfl ?_
        refine wp_goto dX12_allParts_40 ?_
        have e9 : p = rP (hL h 162) := by omega
        subst e9
        exact hcont _
      · refine wp_iload_n dX12_allParts_22 rfl rfl ?_
        refine wp_aload_n dX12_allParts_23 rfl rfl ?_
        refine wp_iload_n dX12_allParts_24 rfl rfl ?_
        refine wp_iload_n dX12_allParts_25 rfl rfl ?_
        refine wp_cV2 1 21 [some _, some _, some _] dX12_allParts_26 tX12_partsOf rfl (by decide) nX12_partsOf vX12_partsOf lX12_302 ⟨by decide, by decide⟩ (Nat.le_of_ble_eq_true rfl) (mO hg.1) (Nat.le_of_ble_eq_true rfl) rfl ?_
        refine pX12_partsOf hg.1 hg.2.1 (by omega) (by omega) ?_
        intro _ _
        refine wp_iadd dX12_allParts_29 ?_
        refine wp_istore_n (ls1 := [_, some _, _, _]) dX12_allParts_30 rfl (by decide) rfl ?_
        refine wp_iinc1 (ls1 := [_, _, _, some _]) dX12_allParts_31 rfl (by decide) rfl ?_
        refine wp_goto dX12_allParts_34 ?_
        rw [nI_add, Nat.add_assoc]
        exact ih (p + 1) (by omega) (by omega)
  have hout : ∀ (n f : Nat) (x3 : Option Value), f ≤ nF h → nF h < f + n → Wp mX12_allParts 2 43 4 [some (.ref 153), some (.int (nI (sumF (hL h 162) (rP (hL h 162)) f))), some (.int (nI f)), x3] [] h Q := by
    intro n
    induction n with
    | zero => intros; omega
    | succ n ih =>
      intro f x3 hf hmz
      refine wp_iload_n dX12_allParts_4 rfl rfl ?_
      refine wp_aload_n dX12_allParts_5 rfl rfl ?_
      refine wp_getI dX12_allParts_6 lX12_137 rfl (mO hg.1) ?_
      refine wp_icmp_geN dX12_allParts_9 rfl hg.2.2.1 ⟨by omega, by omega⟩ (fun c1 => ?_) (fun c1 => ?_)
      · refine wp_iload_n dX12_allParts_43 rfl rfl ?_
        refine wp_ireturn dX12_allParts_44 rfl ?_
        have e9 : f = nF h := by omega
        subst e9
        exact hq
      · refine wp_iconst (v := (nI 0)) dX12_allParts_12 (by decide +kernel) ?_
        refine wp_istore_n (ls1 := [_, _, _, some _]) dX12_allParts_13 rfl (by decide) rfl ?_
        exact hin f c1 (rP (hL h 162) + 1) 0 (by omega) (by omega) (fun x3 => ih (f + 1) x3 (by omega) (by omega))
  refine wp_iconst (v := (nI 0)) dX12_allParts_0 (by decide +kernel) ?_
  refine wp_istore_n (ls1 := [_, some _, _, _]) dX12_allParts_1 rfl (by decide) rfl ?_
  refine wp_iconst (v := (nI 0)) dX12_allParts_2 (by decide +kernel) ?_
  refine wp_istore_n (ls1 := [_, _, some _, _]) dX12_allParts_3 rfl (by decide) rfl ?_
  exact hout (nF h + 1) 0 none (by omega) (by omega)
set_option maxRecDepth 20000 in
theorem pX12_examples {h : mH} {Q : Option Value → mH → Prop} {f : Nat} (hg : mG h) (hf : f < 4) (hq : Q (some (.int (exS (hL h 162) f (rP (hL h 162))))) h) : Wp mX12_examples 2 43 0 [some (.ref 153), some (.int (nI f)), none, none] [] h Q := by
  have hP6 := hg.2.1.1.2
  have hF4 := hg.2.2.2
  have hloop : ∀ (n : Nat) (k : Nat), k ≤ rP (hL h 162) → rP (hL h 162) < k + n → Wp mX12_examples 2 43 4 [some (.ref 153), some (.int (nI f)), some (.int (exS (hL h 162) f k)), some (.int (nI k))] [] h Q := by
    intro n
    induction n with
    | zero => intros; omega
    | succ n ih =>
      intro k hk hmz
      refine wp_iload_n dX12_examples_4 rfl rfl ?_
      refine wp_aload_n dX12_examples_5 rfl rfl ?_
      refine wp_cV0 0 0 [some _] dX12_examples_6 tX12_pages rfl (by decide) nX12_pages vX12_pages lX12_255 ⟨by decide, by decide⟩ (Nat.le_of_ble_eq_true rfl) (mO hg.1) (Nat.le_of_ble_eq_true rfl) rfl ?_
      refine pX12_pages hg.1 hg.2.1 ?_
      intro _ _
      refine wp_icmp_geN dX12_examples_9 rfl rfl ⟨by omega, by omega⟩ (fun c1 => ?_) (fun c1 => ?_)
      · refine wp_iload_n dX12_examples_40 rfl rfl ?_
        refine wp_ireturn dX12_examples_41 rfl ?_
        have e9 : k = rP (hL h 162) := by omega
        subst e9
        exact hq
      · refine wp_iload_n dX12_examples_12 rfl rfl ?_
        refine wp_aload_n dX12_examples_13 rfl rfl ?_
        refine wp_iload_n dX12_examples_14 rfl rfl ?_
        refine wp_iload_n dX12_examples_15 rfl rfl ?_
        refine wp_cV2 1 21 [some _, some _, some _] dX12_examples_16 tX12_partsOf rfl (by decide) nX12_partsOf vX12_partsOf lX12_302 ⟨by decide, by decide⟩ (Nat.le_of_ble_eq_true rfl) (mO hg.1) (Nat.le_of_ble_eq_true rfl) rfl ?_
        refine pX12_partsOf hg.1 hg.2.1 (by omega) (by omega) ?_
        intro _ _
        have h9 := (hg.2.1.2.2 f k hf (by omega)).1.2
        refine wp_if_leN dX12_examples_19 rfl (by omega) (fun c2 => ?_) (fun c2 => ?_)
        · refine wp_iconst (v := (nI 0)) dX12_examples_26 (by decide +kernel) ?_
          refine wp_cS1 0 0 [some _] dX12_examples_27 tX12_truth sX12_truth lX12_320 ⟨by decide, by decide⟩ (Nat.le_of_ble_eq_true rfl) (Nat.le_of_ble_eq_true rfl) rfl ?_
          refine pX12_truth0 ?_
          intro _ _
          refine wp_iload_n dX12_examples_30 rfl rfl ?_
          refine wp_ishl dX12_examples_31 ?_
          refine wp_ior dX12_examples_32 ?_
          refine wp_istore_n (ls1 := [_, _, some _, _]) dX12_examples_33 rfl (by decide) rfl ?_
          refine wp_iinc1 (ls1 := [_, _, _, some _]) dX12_examples_34 rfl (by decide) rfl ?_
          refine wp_goto dX12_examples_37 ?_
          have e9 : exS (hL h 162) f (k + 1) = _ := rfl
          have hih := ih (k + 1) (by omega) (by omega)
          unfold exS at hih
          rw [if_neg (by omega)] at hih
          exact hih
        · refine wp_iconst (v := (nI 1)) dX12_examples_22 (by decide +kernel) ?_
          refine wp_goto dX12_examples_23 ?_
          refine wp_cS1 0 0 [some _] dX12_examples_27 tX12_truth sX12_truth lX12_320 ⟨by decide, by decide⟩ (Nat.le_of_ble_eq_true rfl) (Nat.le_of_ble_eq_true rfl) rfl ?_
          refine pX12_truth1 ?_
          intro _ _
          refine wp_iload_n dX12_examples_30 rfl rfl ?_
          refine wp_ishl dX12_examples_31 ?_
          refine wp_ior dX12_examples_32 ?_
          refine wp_istore_n (ls1 := [_, _, some _, _]) dX12_examples_33 rfl (by decide) rfl ?_
          refine wp_iinc1 (ls1 := [_, _, _, some _]) dX12_examples_34 rfl (by decide) rfl ?_
          refine wp_goto dX12_examples_37 ?_
          have e9 : exS (hL h 162) f (k + 1) = _ := rfl
          have hih := ih (k + 1) (by omega) (by omega)
          unfold exS at hih
          rw [if_pos (by omega)] at hih
          exact hih
  refine wp_iconst (v := (nI 0)) dX12_examples_0 (by decide +kernel) ?_
  refine wp_istore_n (ls1 := [_, _, some _, _]) dX12_examples_1 rfl (by decide) rfl ?_
  refine wp_iconst (v := (nI 0)) dX12_examples_2 (by decide +kernel) ?_
  refine wp_istore_n (ls1 := [_, _, _, some _]) dX12_examples_3 rfl (by decide) rfl ?_
  exact hloop (rP (hL h 162) + 1) 0 (by omega) (by omega)
set_option maxRecDepth 20000 in
theorem pX12_learntFields {h : mH} {Q : Option Value → mH → Prop}  (hg : mG h) (hq : Q (some (.int (leS (hL h 162) (nF h)))) h) : Wp mX12_learntFields 2 41 0 [some (.ref 153), none, none] [] h Q := by
  have hP6 := hg.2.1.1.2
  have hF4 := hg.2.2.2
  have hloop : ∀ (n : Nat) (k : Nat), k ≤ nF h → nF h < k + n → Wp mX12_learntFields 2 41 4 [some (.ref 153), some (.int (leS (hL h 162) k)), some (.int (nI k))] [] h Q := by
    intro n
    induction n with
    | zero => intros; omega
    | succ n ih =>
      intro k hk hmz
      refine wp_iload_n dX12_learntFields_4 rfl rfl ?_
      refine wp_aload_n dX12_learntFields_5 rfl rfl ?_
      refine wp_getI dX12_learntFields_6 lX12_137 rfl (mO hg.1) ?_
      refine wp_icmp_geN dX12_learntFields_9 rfl hg.2.2.1 ⟨by omega, by omega⟩ (fun c1 => ?_) (fun c1 => ?_)
      · refine wp_iload_n dX12_learntFields_31 rfl rfl ?_
        refine wp_ireturn dX12_learntFields_32 rfl ?_
        have e9 : k = nF h := by omega
        subst e9
        exact hq
      · refine wp_iload_n dX12_learntFields_12 rfl rfl ?_
        refine wp_aload_n dX12_learntFields_13 rfl rfl ?_
        refine wp_iload_n dX12_learntFields_14 rfl rfl ?_
        refine wp_cV1 1 20 [some _, some _] dX12_learntFields_15 tX12_isLearnt rfl (by decide) nX12_isLearnt vX12_isLearnt lX12_466 ⟨by decide, by decide⟩ (Nat.le_of_ble_eq_true rfl) (mO hg.1) (Nat.le_of_ble_eq_true rfl) rfl ?_
        refine pX12_isLearnt hg.1 (by omega) (fun ci => ?_) (fun ci => ?_)
        · intro _ _
          refine wp_cS1 0 0 [some _] dX12_learntFields_18 tX12_truth sX12_truth lX12_320 ⟨by decide, by decide⟩ (Nat.le_of_ble_eq_true rfl) (Nat.le_of_ble_eq_true rfl) rfl ?_
          refine pX12_truth1 ?_
          intro _ _
          refine wp_iload_n dX12_learntFields_21 rfl rfl ?_
          refine wp_ishl dX12_learntFields_22 ?_
          refine wp_ior dX12_learntFields_23 ?_
          refine wp_istore_n (ls1 := [_, some _, _]) dX12_learntFields_24 rfl (by decide) rfl ?_
          refine wp_iinc1 (ls1 := [_, _, some _]) dX12_learntFields_25 rfl (by decide) rfl ?_
          refine wp_goto dX12_learntFields_28 ?_
          have e9 : leS (hL h 162) (k + 1) = _ := rfl
          have hih := ih (k + 1) (by omega) (by omega)
          unfold leS at hih
          rw [if_pos ci] at hih
          exact hih
        · intro _ _
          refine wp_cS1 0 0 [some _] dX12_learntFields_18 tX12_truth sX12_truth lX12_320 ⟨by decide, by decide⟩ (Nat.le_of_ble_eq_true rfl) (Nat.le_of_ble_eq_true rfl) rfl ?_
          refine pX12_truth0 ?_
          intro _ _
          refine wp_iload_n dX12_learntFields_21 rfl rfl ?_
          refine wp_ishl dX12_learntFields_22 ?_
          refine wp_ior dX12_learntFields_23 ?_
          refine wp_istore_n (ls1 := [_, some _, _]) dX12_learntFields_24 rfl (by decide) rfl ?_
          refine wp_iinc1 (ls1 := [_, _, some _]) dX12_learntFields_25 rfl (by decide) rfl ?_
          refine wp_goto dX12_learntFields_28 ?_
          have e9 : leS (hL h 162) (k + 1) = _ := rfl
          have hih := ih (k + 1) (by omega) (by omega)
          unfold leS at hih
          rw [if_neg ci] at hih
          exact hih
  refine wp_iconst (v := (nI 0)) dX12_learntFields_0 (by decide +kernel) ?_
  refine wp_istore_n (ls1 := [_, some _, _]) dX12_learntFields_1 rfl (by decide) rfl ?_
  refine wp_iconst (v := (nI 0)) dX12_learntFields_2 (by decide +kernel) ?_
  refine wp_istore_n (ls1 := [_, _, some _]) dX12_learntFields_3 rfl (by decide) rfl ?_
  exact hloop (nF h + 1) 0 (by omega) (by omega)
set_option maxRecDepth 20000 in
theorem pX12_four {h : mH} {Q : Option Value → mH → Prop} {v : Int32} {t : Nat} (hm : mS h) (ht9 : t + 4 ≤ 900) (ht : hI h 153 1 = nI t) (hq : Q none (fourH h t v)) : Wp mX12_four 0 0 0 [some (.ref 153), some (.int v), none] [] h Q := by
  refine wp_bipush (v := (nI 24)) dX12_four_0 (by decide +kernel) ?_
  refine wp_istore_n (ls1 := [_, _, some _]) dX12_four_2 rfl (by decide) rfl ?_
  refine wp_iload_n dX12_four_3 rfl rfl ?_
  refine wp_if_lt dX12_four_4 (fun q => absurd q (by decide +kernel)) (fun _ => ?_)
  refine wp_aload_n dX12_four_7 rfl rfl ?_
  refine wp_getR dX12_four_8 lX12_7 rfl (mO hm) (mR_tape hm) ?_
  refine wp_aload_n dX12_four_11 rfl rfl ?_
  refine wp_getI dX12_four_12 lX12_140 rfl (mO hm) ?_
  refine wp_iload_n dX12_four_15 rfl rfl ?_
  refine wp_iload_n dX12_four_16 rfl rfl ?_
  refine wp_ishr dX12_four_17 ?_
  refine wp_sipush (v := (nI 255)) dX12_four_18 (by decide +kernel) ?_
  refine wp_iand dX12_four_21 ?_
  refine wp_iastN dX12_four_22 (mA_tape hm) ht ⟨by omega, by decide⟩ ?_
  refine wp_aload_n dX12_four_23 rfl rfl ?_
  refine wp_dup dX12_four_24 rfl ?_
  refine wp_getI dX12_four_25 lX12_140 rfl (mO hm) ?_
  refine wp_iconst (v := (nI 1)) dX12_four_28 (by decide +kernel) ?_
  refine wp_iadd dX12_four_29 ?_
  refine wp_putIN dX12_four_30 lX12_140 rfl rfl (Or.inl rfl) (mO hm) (isN_add ht rfl) ?_
  refine wp_iinc (ls1 := [_, _, some _]) dX12_four_33 rfl rfl (by decide) rfl ?_
  refine wp_goto dX12_four_36 ?_
  refine wp_iload_n dX12_four_3 rfl rfl ?_
  refine wp_if_lt dX12_four_4 (fun q => absurd q (by decide +kernel)) (fun _ => ?_)
  refine wp_aload_n dX12_four_7 rfl rfl ?_
  refine wp_getR dX12_four_8 lX12_7 rfl (mO hm) (mR_tape hm) ?_
  refine wp_aload_n dX12_four_11 rfl rfl ?_
  refine wp_getI dX12_four_12 lX12_140 rfl (mO hm) ?_
  refine wp_iload_n dX12_four_15 rfl rfl ?_
  refine wp_iload_n dX12_four_16 rfl rfl ?_
  refine wp_ishr dX12_four_17 ?_
  refine wp_sipush (v := (nI 255)) dX12_four_18 (by decide +kernel) ?_
  refine wp_iand dX12_four_21 ?_
  refine wp_iastN dX12_four_22 (mA_tape hm) (show _ = nI (t + 1) from rfl) ⟨by omega, by decide⟩ ?_
  refine wp_aload_n dX12_four_23 rfl rfl ?_
  refine wp_dup dX12_four_24 rfl ?_
  refine wp_getI dX12_four_25 lX12_140 rfl (mO hm) ?_
  refine wp_iconst (v := (nI 1)) dX12_four_28 (by decide +kernel) ?_
  refine wp_iadd dX12_four_29 ?_
  refine wp_putIN dX12_four_30 lX12_140 rfl rfl (Or.inl rfl) (mO hm) (isN_add (show _ = nI (t + 1) from rfl) rfl) ?_
  refine wp_iinc (ls1 := [_, _, some _]) dX12_four_33 rfl rfl (by decide) rfl ?_
  refine wp_goto dX12_four_36 ?_
  refine wp_iload_n dX12_four_3 rfl rfl ?_
  refine wp_if_lt dX12_four_4 (fun q => absurd q (by decide +kernel)) (fun _ => ?_)
  refine wp_aload_n dX12_four_7 rfl rfl ?_
  refine wp_getR dX12_four_8 lX12_7 rfl (mO hm) (mR_tape hm) ?_
  refine wp_aload_n dX12_four_11 rfl rfl ?_
  refine wp_getI dX12_four_12 lX12_140 rfl (mO hm) ?_
  refine wp_iload_n dX12_four_15 rfl rfl ?_
  refine wp_iload_n dX12_four_16 rfl rfl ?_
  refine wp_ishr dX12_four_17 ?_
  refine wp_sipush (v := (nI 255)) dX12_four_18 (by decide +kernel) ?_
  refine wp_iand dX12_four_21 ?_
  refine wp_iastN dX12_four_22 (mA_tape hm) (show _ = nI (t + 1 + 1) from rfl) ⟨by omega, by decide⟩ ?_
  refine wp_aload_n dX12_four_23 rfl rfl ?_
  refine wp_dup dX12_four_24 rfl ?_
  refine wp_getI dX12_four_25 lX12_140 rfl (mO hm) ?_
  refine wp_iconst (v := (nI 1)) dX12_four_28 (by decide +kernel) ?_
  refine wp_iadd dX12_four_29 ?_
  refine wp_putIN dX12_four_30 lX12_140 rfl rfl (Or.inl rfl) (mO hm) (isN_add (show _ = nI (t + 1 + 1) from rfl) rfl) ?_
  refine wp_iinc (ls1 := [_, _, some _]) dX12_four_33 rfl rfl (by decide) rfl ?_
  refine wp_goto dX12_four_36 ?_
  refine wp_iload_n dX12_four_3 rfl rfl ?_
  refine wp_if_lt dX12_four_4 (fun q => absurd q (by decide +kernel)) (fun _ => ?_)
  refine wp_aload_n dX12_four_7 rfl rfl ?_
  refine wp_getR dX12_four_8 lX12_7 rfl (mO hm) (mR_tape hm) ?_
  refine wp_aload_n dX12_four_11 rfl rfl ?_
  refine wp_getI dX12_four_12 lX12_140 rfl (mO hm) ?_
  refine wp_iload_n dX12_four_15 rfl rfl ?_
  refine wp_iload_n dX12_four_16 rfl rfl ?_
  refine wp_ishr dX12_four_17 ?_
  refine wp_sipush (v := (nI 255)) dX12_four_18 (by decide +kernel) ?_
  refine wp_iand dX12_four_21 ?_
  refine wp_iastN dX12_four_22 (mA_tape hm) (show _ = nI (t + 1 + 1 + 1) from rfl) ⟨by omega, by decide⟩ ?_
  refine wp_aload_n dX12_four_23 rfl rfl ?_
  refine wp_dup dX12_four_24 rfl ?_
  refine wp_getI dX12_four_25 lX12_140 rfl (mO hm) ?_
  refine wp_iconst (v := (nI 1)) dX12_four_28 (by decide +kernel) ?_
  refine wp_iadd dX12_four_29 ?_
  refine wp_putIN dX12_four_30 lX12_140 rfl rfl (Or.inl rfl) (mO hm) (isN_add (show _ = nI (t + 1 + 1 + 1) from rfl) rfl) ?_
  refine wp_iinc (ls1 := [_, _, some _]) dX12_four_33 rfl rfl (by decide) rfl ?_
  refine wp_goto dX12_four_36 ?_
  refine wp_iload_n dX12_four_3 rfl rfl ?_
  refine wp_if_lt dX12_four_4 (fun _ => ?_) (fun q => absurd q (by decide +kernel))
  refine wp_vreturn dX12_four_39 rfl ?_
  exact hq
theorem mS_four {h : mH} {t : Nat} {v : Int32} (s : mS h) : mS (fourH h t v) := s
theorem hI_four (h : mH) (t : Nat) (v : Int32) : hI (fourH h t v) 153 1 = nI (t + 4) := rfl
set_option maxRecDepth 20000 in
theorem pX12_feed {h : mH} {Q : Option Value → mH → Prop} {a b c d e : Int32} {t : Nat} (hm : mS h) (ht9 : t ≤ 900) (ht : hI h 153 1 = nI t) (h0 : 900 < t + 20 → Q (some (.int (-1))) h) (h1 : t + 20 ≤ 900 → Q (some (.int (nI (t + 20)))) (fourH (fourH (fourH (fourH (fourH h t a) (t + 4) b) (t + 8) c) (t + 12) d) (t + 16) e)) : Wp mX12_feed 1 22 0 [some (.ref 153), some (.int a), some (.int b), some (.int c), some (.int d), some (.int e)] [] h Q := by
  refine wp_aload_n dX12_feed_0 rfl rfl ?_
  refine wp_getI dX12_feed_1 lX12_140 rfl (mO hm) ?_
  refine wp_bipush (v := (nI 20)) dX12_feed_4 (by decide +kernel) ?_
  refine wp_iadd dX12_feed_6 ?_
  refine wp_sipush (v := (nI 900)) dX12_feed_7 (by decide +kernel) ?_
  refine wp_icmp_leN dX12_feed_10 (isN_add ht rfl) rfl ⟨by omega, by decide⟩ (fun c1 => ?_) (fun c1 => ?_)
  · refine wp_aload_n dX12_feed_15 rfl rfl ?_
    refine wp_iload_n dX12_feed_16 rfl rfl ?_
    refine wp_cV1 0 0 [some _, some _, none] dX12_feed_17 tX12_four rfl (by decide) nX12_four vX12_four lX12_143 ⟨by decide, by decide⟩ (Nat.le_of_ble_eq_true rfl) (mO hm) (Nat.le_of_ble_eq_true rfl) rfl ?_
    refine pX12_four (t := t) hm (by omega) (ht) ?_
    intro _ _
    refine wp_aload_n dX12_feed_20 rfl rfl ?_
    refine wp_iload_n dX12_feed_21 rfl rfl ?_
    refine wp_cV1 0 0 [some _, some _, none] dX12_feed_22 tX12_four rfl (by decide) nX12_four vX12_four lX12_143 ⟨by decide, by decide⟩ (Nat.le_of_ble_eq_true rfl) (mO (mS_four hm)) (Nat.le_of_ble_eq_true rfl) rfl ?_
    refine pX12_four (t := t + 4) (mS_four hm) (by omega) (hI_four _ _ _) ?_
    intro _ _
    refine wp_aload_n dX12_feed_25 rfl rfl ?_
    refine wp_iload_n dX12_feed_26 rfl rfl ?_
    refine wp_cV1 0 0 [some _, some _, none] dX12_feed_27 tX12_four rfl (by decide) nX12_four vX12_four lX12_143 ⟨by decide, by decide⟩ (Nat.le_of_ble_eq_true rfl) (mO (mS_four (mS_four hm))) (Nat.le_of_ble_eq_true rfl) rfl ?_
    refine pX12_four (t := t + 8) (mS_four (mS_four hm)) (by omega) (hI_four _ _ _) ?_
    intro _ _
    refine wp_aload_n dX12_feed_30 rfl rfl ?_
    refine wp_iload dX12_feed_31 rfl ?_
    refine wp_cV1 0 0 [some _, some _, none] dX12_feed_33 tX12_four rfl (by decide) nX12_four vX12_four lX12_143 ⟨by decide, by decide⟩ (Nat.le_of_ble_eq_true rfl) (mO (mS_four (mS_four (mS_four hm)))) (Nat.le_of_ble_eq_true rfl) rfl ?_
    refine pX12_four (t := t + 12) (mS_four (mS_four (mS_four hm))) (by omega) (hI_four _ _ _) ?_
    intro _ _
    refine wp_aload_n dX12_feed_36 rfl rfl ?_
    refine wp_iload dX12_feed_37 rfl ?_
    refine wp_cV1 0 0 [some _, some _, none] dX12_feed_39 tX12_four rfl (by decide) nX12_four vX12_four lX12_143 ⟨by decide, by decide⟩ (Nat.le_of_ble_eq_true rfl) (mO (mS_four (mS_four (mS_four (mS_four hm))))) (Nat.le_of_ble_eq_true rfl) rfl ?_
    refine pX12_four (t := t + 16) (mS_four (mS_four (mS_four (mS_four hm)))) (by omega) (hI_four _ _ _) ?_
    intro _ _
    refine wp_aload_n dX12_feed_42 rfl rfl ?_
    refine wp_getI dX12_feed_43 lX12_140 rfl (mO (mS_four (mS_four (mS_four (mS_four (mS_four hm)))))) ?_
    refine wp_ireturn dX12_feed_46 rfl ?_
    rw [hI_four]
    exact h1 c1
  · refine wp_iconst (v := (-1)) dX12_feed_13 (by decide +kernel) ?_
    refine wp_ireturn dX12_feed_14 rfl ?_
    exact h0 c1
set_option maxRecDepth 20000 in
theorem pX12_end {h : mH} {Q : Option Value → mH → Prop} {x : Int32} {t : Nat} (hm : mS h) (ht9 : t ≤ 900) (ht : hI h 153 1 = nI t) (h0 : (∀ j, j ≤ t → x = nI j → False) → Q (some (.int (-1))) h) (h1 : ∀ j, j ≤ t → x = nI j → Q (some (.int (nI j))) (sI h 153 1 (nI j))) : Wp mX12_end 1 22 0 [some (.ref 153), some (.int x)] [] h Q := by
  refine wp_iload_n dX12_end_0 rfl rfl ?_
  refine wp_iconst (v := (nI 0)) dX12_end_1 (by decide +kernel) ?_
  refine wp_aload_n dX12_end_2 rfl rfl ?_
  refine wp_getI dX12_end_3 lX12_140 rfl (mO hm) ?_
  refine wp_cS3 0 0 [some _, some _, some _] dX12_end_6 tX12_isIn sX12_isIn lX12_147 ⟨by decide, by decide⟩ (Nat.le_of_ble_eq_true rfl) (Nat.le_of_ble_eq_true rfl) rfl ?_
  refine pX12_isIn (fun ci => ?_) (fun ci => ?_)
  · rw [ht] at ci
    obtain ⟨j, hj, rfl⟩ := (ixM (by omega)).mp ci
    intro _ _
    refine wp_if_ne dX12_end_9 (fun _ => ?_) (fun q => absurd q (by decide +kernel))
    refine wp_aload_n dX12_end_14 rfl rfl ?_
    refine wp_iload_n dX12_end_15 rfl rfl ?_
    refine wp_putI dX12_end_16 lX12_140 rfl (Or.inl rfl) (mO hm) rfl rfl ?_
    refine wp_iload_n dX12_end_19 rfl rfl ?_
    refine wp_ireturn dX12_end_20 rfl ?_
    exact h1 j hj rfl
  · rw [ht] at ci
    intro _ _
    refine wp_if_ne dX12_end_9 (fun q => absurd q (by decide +kernel)) (fun _ => ?_)
    refine wp_iconst (v := (-1)) dX12_end_12 (by decide +kernel) ?_
    refine wp_ireturn dX12_end_13 rfl ?_
    exact h0 (fun j hj ej => ci ((ixM (by omega)).mpr ⟨j, hj, ej⟩))
