/-! ===== one part cut out of a row of tokens ===== -/
def fI (P : Nat → Bool) : Nat → Nat → Option Nat
  | 0, _ => none
  | n + 1, a => if P a = true then some a else fI P n (a + 1)
/-- the first from a on, below b -/
def fst1 (P : Nat → Bool) (a b : Nat) : Option Nat := fI P (b - a) a
theorem fI_some {P : Nat → Bool} : ∀ (n a j : Nat), fI P n a = some j → a ≤ j ∧ j < a + n ∧ P j = true ∧ ∀ i, a ≤ i → i < j → P i = false
  | 0, a, j, h => by cases h
  | n + 1, a, j, h => by
    unfold fI at h
    by_cases hp : P a = true
    · rw [if_pos hp] at h
      cases h
      exact ⟨Nat.le_refl _, by omega, hp, fun i h1 h2 => by omega⟩
    · rw [if_neg hp] at h
      obtain ⟨h1, h2, h3, h4⟩ := fI_some n (a + 1) j h
      refine ⟨by omega, by omega, h3, fun i g1 g2 => ?_⟩
      by_cases e : i = a
      · subst e
        simpa using hp
      · exact h4 i (by omega) g2
theorem fI_none {P : Nat → Bool} : ∀ (n a : Nat), fI P n a = none → ∀ i, a ≤ i → i < a + n → P i = false
  | 0, a, _, i, h1, h2 => by omega
  | n + 1, a, h, i, h1, h2 => by
    unfold fI at h
    by_cases hp : P a = true
    · rw [if_pos hp] at h
      cases h
    · rw [if_neg hp] at h
      by_cases e : i = a
      · subst e
        simpa using hp
      · exact fI_none n (a + 1) h i (by omega) (by omega)
theorem fst1_some {P : Nat → Bool} {a b j : Nat} (h : fst1 P a b = some j) : a ≤ j ∧ j < b ∧ P j = true ∧ ∀ i, a ≤ i → i < j → P i = false := by
  obtain ⟨h1, h2, h3, h4⟩ := fI_some _ _ _ h
  exact ⟨h1, by omega, h3, h4⟩
def bhN (P : Int32 → Nat → Bool) (k b : Nat) (near sec : Int32) : Option Nat := if near = -1 then some k else if sec = -1 then (fst1 (P near) k b).map (fun j => j + 1) else (fst1 (fun j => P near j && P sec (j + 1)) k (b - 1)).map (fun j => j + 2)
def cut1 (P : Int32 → Nat → Bool) (a b : Nat) (far near sec stop : Int32) : Option (Nat × Nat) :=
  (if far = -1 then some a else (fst1 (P far) a b).map (fun j => j + 1)).bind fun k => (bhN P k b near sec).bind fun k2 => if k2 < b then (if stop = -1 then some b else fst1 (P stop) (k2 + 1) b).map (fun e => (k2, e)) else none
def cutL (P : Int32 → Nat → Bool) (b : Nat) (far near sec stop : Int32) : Nat → Nat → List (Nat × Nat)
  | 0, _ => []
  | n + 1, a => match cut1 P a b far near sec stop with
    | none => []
    | some q => q :: cutL P b far near sec stop n q.2
/-- whether an item stands at a place of the model's row -/
def pm (h : mH) (x : Int32) (k : Nat) : Bool := if x < nI 3 then decide (hI h 168 k = x) else decide (hI h 167 k = x - nI 3)
set_option maxRecDepth 20000 in
theorem pX12_isItem {h : mH} {Q : Option Value → mH → Prop} {k : Nat} {x : Int32} (hm : mS h) (hk : k < 40) (ht : pm h x k = true → Q (some (.int (nI 1))) h) (hf : pm h x k = false → Q (some (.int (nI 0))) h) : Wp mX12_isItem 0 0 0 [some (.ref 153), some (.int (nI k)), some (.int x)] [] h Q := by
  refine wp_iload_n dX12_isItem_0 rfl rfl ?_
  refine wp_iconst (v := (nI 3)) dX12_isItem_1 (by decide +kernel) ?_
  refine wp_icmp_ge dX12_isItem_2 (fun c1 => ?_) (fun c1 => ?_)
  · refine wp_aload_n dX12_isItem_23 rfl rfl ?_
    refine wp_getR dX12_isItem_24 lX12_58 rfl (mO hm) (mR_rowNumber hm) ?_
    refine wp_iload_n dX12_isItem_27 rfl rfl ?_
    refine wp_ialdN dX12_isItem_28 (mA_rowNumber hm) rfl ⟨by omega, by decide⟩ ?_
    refine wp_iload_n dX12_isItem_29 rfl rfl ?_
    refine wp_iconst (v := (nI 3)) dX12_isItem_30 (by decide +kernel) ?_
    refine wp_isub dX12_isItem_31 ?_
    refine wp_icmp_ne dX12_isItem_32 (fun c2 => ?_) (fun c2 => ?_)
    · refine wp_iconst (v := (nI 0)) dX12_isItem_39 (by decide +kernel) ?_
      refine wp_zreturn dX12_isItem_40 rfl (Or.inl rfl) ?_
      first | exact ht (by unfold pm; first | (rw [if_pos (by simp only [Int32.lt_iff_toInt_lt, Int32.le_iff_toInt_le, ← Int32.toInt_inj, nI_toInt, Nat.reduceLT, Nat.reducePow] at *; omega)]; exact decide_eq_true (by assumption)) | (rw [if_neg (by simp only [Int32.lt_iff_toInt_lt, Int32.le_iff_toInt_le, ← Int32.toInt_inj, nI_toInt, Nat.reduceLT, Nat.reducePow] at *; omega)]; exact decide_eq_true (by assumption))) | exact hf (by unfold pm; first | (rw [if_pos (by simp only [Int32.lt_iff_toInt_lt, Int32.le_iff_toInt_le, ← Int32.toInt_inj, nI_toInt, Nat.reduceLT, Nat.reducePow] at *; omega)]; exact decide_eq_false (by assumption)) | (rw [if_neg (by simp only [Int32.lt_iff_toInt_lt, Int32.le_iff_toInt_le, ← Int32.toInt_inj, nI_toInt, Nat.reduceLT, Nat.reducePow] at *; omega)]; exact decide_eq_false (by assumption)))
    · refine wp_iconst (v := (nI 1)) dX12_isItem_35 (by decide +kernel) ?_
      refine wp_goto dX12_isItem_36 ?_
      refine wp_zreturn dX12_isItem_40 rfl (Or.inr rfl) ?_
      first | exact ht (by unfold pm; first | (rw [if_pos (by simp only [Int32.lt_iff_toInt_lt, Int32.le_iff_toInt_le, ← Int32.toInt_inj, nI_toInt, Nat.reduceLT, Nat.reducePow] at *; omega)]; exact decide_eq_true (by assumption)) | (rw [if_neg (by simp only [Int32.lt_iff_toInt_lt, Int32.le_iff_toInt_le, ← Int32.toInt_inj, nI_toInt, Nat.reduceLT, Nat.reducePow] at *; omega)]; exact decide_eq_true (by assumption))) | exact hf (by unfold pm; first | (rw [if_pos (by simp only [Int32.lt_iff_toInt_lt, Int32.le_iff_toInt_le, ← Int32.toInt_inj, nI_toInt, Nat.reduceLT, Nat.reducePow] at *; omega)]; exact decide_eq_false (by assumption)) | (rw [if_neg (by simp only [Int32.lt_iff_toInt_lt, Int32.le_iff_toInt_le, ← Int32.toInt_inj, nI_toInt, Nat.reduceLT, Nat.reducePow] at *; omega)]; exact decide_eq_false (by assumption)))
  · refine wp_aload_n dX12_isItem_5 rfl rfl ?_
    refine wp_getR dX12_isItem_6 lX12_61 rfl (mO hm) (mR_rowKind hm) ?_
    refine wp_iload_n dX12_isItem_9 rfl rfl ?_
    refine wp_ialdN dX12_isItem_10 (mA_rowKind hm) rfl ⟨by omega, by decide⟩ ?_
    refine wp_iload_n dX12_isItem_11 rfl rfl ?_
    refine wp_icmp_ne dX12_isItem_12 (fun c3 => ?_) (fun c3 => ?_)
    · refine wp_iconst (v := (nI 0)) dX12_isItem_19 (by decide +kernel) ?_
      refine wp_goto dX12_isItem_20 ?_
      refine wp_zreturn dX12_isItem_40 rfl (Or.inl rfl) ?_
      first | exact ht (by unfold pm; first | (rw [if_pos (by simp only [Int32.lt_iff_toInt_lt, Int32.le_iff_toInt_le, ← Int32.toInt_inj, nI_toInt, Nat.reduceLT, Nat.reducePow] at *; omega)]; exact decide_eq_true (by assumption)) | (rw [if_neg (by simp only [Int32.lt_iff_toInt_lt, Int32.le_iff_toInt_le, ← Int32.toInt_inj, nI_toInt, Nat.reduceLT, Nat.reducePow] at *; omega)]; exact decide_eq_true (by assumption))) | exact hf (by unfold pm; first | (rw [if_pos (by simp only [Int32.lt_iff_toInt_lt, Int32.le_iff_toInt_le, ← Int32.toInt_inj, nI_toInt, Nat.reduceLT, Nat.reducePow] at *; omega)]; exact decide_eq_false (by assumption)) | (rw [if_neg (by simp only [Int32.lt_iff_toInt_lt, Int32.le_iff_toInt_le, ← Int32.toInt_inj, nI_toInt, Nat.reduceLT, Nat.reducePow] at *; omega)]; exact decide_eq_false (by assumption)))
    · refine wp_iconst (v := (nI 1)) dX12_isItem_15 (by decide +kernel) ?_
      refine wp_goto dX12_isItem_16 ?_
      refine wp_zreturn dX12_isItem_40 rfl (Or.inr rfl) ?_
      first | exact ht (by unfold pm; first | (rw [if_pos (by simp only [Int32.lt_iff_toInt_lt, Int32.le_iff_toInt_le, ← Int32.toInt_inj, nI_toInt, Nat.reduceLT, Nat.reducePow] at *; omega)]; exact decide_eq_true (by assumption)) | (rw [if_neg (by simp only [Int32.lt_iff_toInt_lt, Int32.le_iff_toInt_le, ← Int32.toInt_inj, nI_toInt, Nat.reduceLT, Nat.reducePow] at *; omega)]; exact decide_eq_true (by assumption))) | exact hf (by unfold pm; first | (rw [if_pos (by simp only [Int32.lt_iff_toInt_lt, Int32.le_iff_toInt_le, ← Int32.toInt_inj, nI_toInt, Nat.reduceLT, Nat.reducePow] at *; omega)]; exact decide_eq_false (by assumption)) | (rw [if_neg (by simp only [Int32.lt_iff_toInt_lt, Int32.le_iff_toInt_le, ← Int32.toInt_inj, nI_toInt, Nat.reduceLT, Nat.reducePow] at *; omega)]; exact decide_eq_false (by assumption)))
set_option maxRecDepth 20000 in
theorem pX12_first {h : mH} {Q : Option Value → mH → Prop} {a b : Nat} {x : Int32} (hm : mS h) (hab : a ≤ 41 ∧ b ≤ 40) (hs : ∀ j, fst1 (pm h x) a b = some j → a ≤ j → j < b → Q (some (.int (nI j))) h) (hn : fst1 (pm h x) a b = none → Q (some (.int (-1))) h) : Wp mX12_first 1 22 0 [some (.ref 153), some (.int (nI a)), some (.int (nI b)), some (.int x), none] [] h Q := by
  have hloop : ∀ (n : Nat) (k : Nat), k ≤ 41 → a ≤ k → fI (pm h x) (b - k) k = fst1 (pm h x) a b → 41 < k + n → Wp mX12_first 1 22 3 [some (.ref 153), some (.int (nI a)), some (.int (nI b)), some (.int x), some (.int (nI k))] [] h Q := by
    intro n
    induction n with
    | zero => intros; omega
    | succ n ih =>
      intro k hk hi he hmz
      refine wp_iload dX12_first_3 rfl ?_
      refine wp_iload_n dX12_first_5 rfl rfl ?_
      refine wp_icmp_geN dX12_first_6 rfl rfl ⟨by omega, by omega⟩ (fun c1 => ?_) (fun c1 => ?_)
      · refine wp_iconst (v := (-1)) dX12_first_28 (by decide +kernel) ?_
        refine wp_ireturn dX12_first_29 rfl ?_
        refine hn ?_
        rw [show b - k = 0 by omega] at he
        exact he.symm
      · refine wp_aload_n dX12_first_9 rfl rfl ?_
        refine wp_iload dX12_first_10 rfl ?_
        refine wp_iload_n dX12_first_12 rfl rfl ?_
        refine wp_cV2 0 0 [some _, some _, some _] dX12_first_13 tX12_isItem rfl (by decide) nX12_isItem vX12_isItem lX12_327 ⟨by decide, by decide⟩ (Nat.le_of_ble_eq_true rfl) (mO hm) (Nat.le_of_ble_eq_true rfl) rfl ?_
        refine pX12_isItem hm (by omega) (fun t2 => ?_) (fun t2 => ?_)
        · intro _ _
          refine wp_if_eq dX12_first_16 (fun q => absurd q (by decide +kernel)) (fun _ => ?_)
          refine wp_iload dX12_first_19 rfl ?_
          refine wp_ireturn dX12_first_21 rfl ?_
          refine hs k ?_ hi (by omega)
          rw [show b - k = (b - (k + 1)) + 1 by omega] at he
          unfold fI at he
          rw [if_pos t2] at he
          exact he.symm
        · intro _ _
          refine wp_if_eq dX12_first_16 (fun _ => ?_) (fun q => absurd q (by decide +kernel))
          refine wp_iinc1 (ls1 := [_, _, _, _, some _]) dX12_first_22 rfl (by decide) rfl ?_
          refine wp_goto dX12_first_25 ?_
          refine ih (k + 1) (by omega) (by omega) ?_ (by omega)
          rw [show b - k = (b - (k + 1)) + 1 by omega] at he
          unfold fI at he
          rw [if_neg (by rw [t2]; decide)] at he
          exact he
  refine wp_iload_n dX12_first_0 rfl rfl ?_
  refine wp_istore (ls1 := [_, _, _, _, some _]) dX12_first_1 (by decide) rfl ?_
  exact hloop 42 a (by omega) (Nat.le_refl _) rfl (by omega)
set_option maxRecDepth 20000 in
theorem pX12_behindNear {h : mH} {Q : Option Value → mH → Prop} {a b : Nat} {near sec : Int32} (hm : mS h) (hb40 : b ≤ 40) (hab : a ≤ b ∧ 0 ≤ a) (hs : ∀ j, bhN (pm h) a b near sec = some j → a ≤ j → j ≤ b → Q (some (.int (nI j))) h) (hn : bhN (pm h) a b near sec = none → Q (some (.int (-1))) h) : Wp mX12_behindNear 2 46 0 [some (.ref 153), some (.int (nI a)), some (.int (nI b)), some (.int near), some (.int sec), none] [] h Q := by
  have hloop : ¬ near = -1 → ¬ sec = -1 → ∀ (n k : Nat), k ≤ 41 → a ≤ k → fI (fun j => pm h near j && pm h sec (j + 1)) (b - 1 - k) k = fst1 (fun j => pm h near j && pm h sec (j + 1)) a (b - 1) → 41 < k + n → Wp mX12_behindNear 2 46 40 [some (.ref 153), some (.int (nI a)), some (.int (nI b)), some (.int near), some (.int sec), some (.int (nI k))] [] h Q := by
    intro cn1 cn2 n
    induction n with
    | zero => intros; omega
    | succ n ih =>
      intro k hk hi he hmz
      refine wp_iload dX12_behindNear_40 rfl ?_
      refine wp_iconst (v := (nI 1)) dX12_behindNear_42 (by decide +kernel) ?_
      refine wp_iadd dX12_behindNear_43 ?_
      refine wp_iload_n dX12_behindNear_44 rfl rfl ?_
      refine wp_icmp_geN dX12_behindNear_45 (isN_add rfl rfl) rfl ⟨by omega, by omega⟩ (fun c1 => ?_) (fun c1 => ?_)
      · refine wp_iconst (v := (-1)) dX12_behindNear_82 (by decide +kernel) ?_
        refine wp_ireturn dX12_behindNear_83 rfl ?_
        refine hn ?_
        rw [show b - 1 - k = 0 by omega] at he
        unfold bhN
        rw [if_neg cn1, if_neg cn2, ← he]
        rfl
      · refine wp_aload_n dX12_behindNear_48 rfl rfl ?_
        refine wp_iload dX12_behindNear_49 rfl ?_
        refine wp_iload_n dX12_behindNear_51 rfl rfl ?_
        refine wp_cV2 0 0 [some _, some _, some _] dX12_behindNear_52 tX12_isItem rfl (by decide) nX12_isItem vX12_isItem lX12_327 ⟨by decide, by decide⟩ (Nat.le_of_ble_eq_true rfl) (mO hm) (Nat.le_of_ble_eq_true rfl) rfl ?_
        refine pX12_isItem hm (by omega) (fun t2 => ?_) (fun t2 => ?_)
        · intro _ _
          refine wp_if_eq dX12_behindNear_55 (fun q => absurd q (by decide +kernel)) (fun _ => ?_)
          refine wp_aload_n dX12_behindNear_58 rfl rfl ?_
          refine wp_iload dX12_behindNear_59 rfl ?_
          refine wp_iconst (v := (nI 1)) dX12_behindNear_61 (by decide +kernel) ?_
          refine wp_iadd dX12_behindNear_62 ?_
          refine wp_iload dX12_behindNear_63 rfl ?_
          refine wp_cV2 0 0 [some _, some _, some _] dX12_behindNear_65 tX12_isItem rfl (by decide) nX12_isItem vX12_isItem lX12_327 ⟨by decide, by decide⟩ (Nat.le_of_ble_eq_true rfl) (mO hm) (Nat.le_of_ble_eq_true rfl) rfl ?_
          rw [nI_add]
          refine pX12_isItem hm (by omega) (fun t4 => ?_) (fun t4 => ?_)
          · intro _ _
            refine wp_if_eq dX12_behindNear_68 (fun q => absurd q (by decide +kernel)) (fun _ => ?_)
            refine wp_iload dX12_behindNear_71 rfl ?_
            refine wp_iconst (v := (nI 2)) dX12_behindNear_73 (by decide +kernel) ?_
            refine wp_iadd dX12_behindNear_74 ?_
            refine wp_ireturn dX12_behindNear_75 rfl ?_
            rw [nI_add]
            refine hs (k + 2) ?_ (by omega) (by omega)
            rw [show b - 1 - k = (b - 1 - (k + 1)) + 1 by omega] at he
            unfold fI at he
            rw [if_pos (show (pm h near k && pm h sec (k + 1)) = true by rw [t2, t4]; rfl)] at he
            unfold bhN
            rw [if_neg cn1, if_neg cn2, ← he]
            rfl
          · intro _ _
            refine wp_if_eq dX12_behindNear_68 (fun _ => ?_) (fun q => absurd q (by decide +kernel))
            refine wp_iinc1 (ls1 := [_, _, _, _, _, some _]) dX12_behindNear_76 rfl (by decide) rfl ?_
            refine wp_goto dX12_behindNear_79 ?_
            refine ih (k + 1) (by omega) (by omega) ?_ (by omega)
            rw [show b - 1 - k = (b - 1 - (k + 1)) + 1 by omega] at he
            unfold fI at he
            rw [if_neg (show ¬ (pm h near k && pm h sec (k + 1)) = true by first | (rw [t2, t4]; decide) | (rw [t2, Bool.false_and]; decide))] at he
            exact he
        · intro _ _
          refine wp_if_eq dX12_behindNear_55 (fun _ => ?_) (fun q => absurd q (by decide +kernel))
          refine wp_iinc1 (ls1 := [_, _, _, _, _, some _]) dX12_behindNear_76 rfl (by decide) rfl ?_
          refine wp_goto dX12_behindNear_79 ?_
          refine ih (k + 1) (by omega) (by omega) ?_ (by omega)
          rw [show b - 1 - k = (b - 1 - (k + 1)) + 1 by omega] at he
          unfold fI at he
          rw [if_neg (show ¬ (pm h near k && pm h sec (k + 1)) = true by first | (rw [t2, t4]; decide) | (rw [t2, Bool.false_and]; decide))] at he
          exact he
  refine wp_iload_n dX12_behindNear_0 rfl rfl ?_
  refine wp_iconst (v := (-1)) dX12_behindNear_1 (by decide +kernel) ?_
  refine wp_icmp_ne dX12_behindNear_2 (fun c1 => ?_) (fun c1 => ?_)
  · refine wp_iload dX12_behindNear_7 rfl ?_
    refine wp_iconst (v := (-1)) dX12_behindNear_9 (by decide +kernel) ?_
    refine wp_icmp_ne dX12_behindNear_10 (fun c2 => ?_) (fun c2 => ?_)
    · refine wp_iload_n dX12_behindNear_37 rfl rfl ?_
      refine wp_istore (ls1 := [_, _, _, _, _, some _]) dX12_behindNear_38 (by decide) rfl ?_
      exact hloop c1 c2 42 a (by omega) (Nat.le_refl _) rfl (by omega)
    · refine wp_aload_n dX12_behindNear_13 rfl rfl ?_
      refine wp_iload_n dX12_behindNear_14 rfl rfl ?_
      refine wp_iload_n dX12_behindNear_15 rfl rfl ?_
      refine wp_iload_n dX12_behindNear_16 rfl rfl ?_
      refine wp_cV3 1 22 [some _, some _, some _, some _, none] dX12_behindNear_17 tX12_first rfl (by decide) nX12_first vX12_first lX12_330 ⟨by decide, by decide⟩ (Nat.le_of_ble_eq_true rfl) (mO hm) (Nat.le_of_ble_eq_true rfl) rfl ?_
      refine pX12_first hm (by omega) (fun j3 ej3 hj3 gj3 => ?_) (fun ej3 => ?_)
      · intro _ _
        refine wp_istore (ls1 := [_, _, _, _, _, some _]) dX12_behindNear_20 (by decide) rfl ?_
        refine wp_iload dX12_behindNear_22 rfl ?_
        refine wp_iconst (v := (-1)) dX12_behindNear_24 (by decide +kernel) ?_
        refine wp_icmp_ne dX12_behindNear_25 (fun _ => ?_) (fun q => absurd q (nI_ne_m1 (by omega)))
        refine wp_iload dX12_behindNear_32 rfl ?_
        refine wp_iconst (v := (nI 1)) dX12_behindNear_34 (by decide +kernel) ?_
        refine wp_iadd dX12_behindNear_35 ?_
        refine wp_ireturn dX12_behindNear_36 rfl ?_
        rw [nI_add]
        refine hs (j3 + 1) ?_ (by omega) (by omega)
        unfold bhN
        rw [if_neg c1, if_pos c2, ej3]
        rfl
      · intro _ _
        refine wp_istore (ls1 := [_, _, _, _, _, some _]) dX12_behindNear_20 (by decide) rfl ?_
        refine wp_iload dX12_behindNear_22 rfl ?_
        refine wp_iconst (v := (-1)) dX12_behindNear_24 (by decide +kernel) ?_
        refine wp_icmp_ne dX12_behindNear_25 (fun q => absurd rfl q) (fun _ => ?_)
        refine wp_iconst (v := (-1)) dX12_behindNear_28 (by decide +kernel) ?_
        refine wp_goto dX12_behindNear_29 ?_
        refine wp_ireturn dX12_behindNear_36 rfl ?_
        refine hn ?_
        unfold bhN
        rw [if_neg c1, if_pos c2, ej3]
        rfl
  · refine wp_iload_n dX12_behindNear_5 rfl rfl ?_
    refine wp_ireturn dX12_behindNear_6 rfl ?_
    exact hs a (by unfold bhN; rw [if_pos c1]) (Nat.le_refl _) hab.1
/-- a part more -/
def cutH (h : mH) (c x y : Nat) : mH := sI (sI (sI h 169 c (nI x)) 170 c (nI y)) 153 35 (nI (c + 1))
set_option maxRecDepth 20000 in
theorem pX12_cutsOne {h : mH} {Q : Option Value → mH → Prop} {a b c : Nat} {far near sec stop : Int32} (hm : mS h) (hc8 : c < 8) (hc : hI h 153 35 = nI c) (hab : a ≤ b ∧ b ≤ 40) (hs : ∀ x y, cut1 (pm h) a b far near sec stop = some (x, y) → a ≤ x → x < y → y ≤ b → Q (some (.int (nI 1))) (cutH h c x y)) (hn : cut1 (pm h) a b far near sec stop = none → Q (some (.int (nI 0))) h) : Wp mX12_cutsOne 3 71 0 [some (.ref 153), some (.int (nI a)), some (.int (nI b)), some (.int far), some (.int near), some (.int sec), some (.int stop), none, none] [] h Q := by
  refine wp_iload_n dX12_cutsOne_0 rfl rfl ?_
  refine wp_istore (ls1 := [_, _, _, _, _, _, _, some _, _]) dX12_cutsOne_1 (by decide) rfl ?_
  refine wp_iload_n dX12_cutsOne_3 rfl rfl ?_
  refine wp_iconst (v := (-1)) dX12_cutsOne_4 (by decide +kernel) ?_
  refine wp_icmp_eq dX12_cutsOne_5 (fun c1 => ?_) (fun c1 => ?_)
  · refine wp_aload_n dX12_cutsOne_28 rfl rfl ?_
    refine wp_iload dX12_cutsOne_29 rfl ?_
    refine wp_iload_n dX12_cutsOne_31 rfl rfl ?_
    refine wp_iload dX12_cutsOne_32 rfl ?_
    refine wp_iload dX12_cutsOne_34 rfl ?_
    refine wp_cV4 2 46 [some _, some _, some _, some _, some _, none] dX12_cutsOne_36 tX12_behindNear rfl (by decide) nX12_behindNear vX12_behindNear lX12_333 ⟨by decide, by decide⟩ (Nat.le_of_ble_eq_true rfl) (mO hm) (Nat.le_of_ble_eq_true rfl) rfl ?_
    refine pX12_behindNear hm (by omega) (by omega) (fun j2 ej2 hj2 gj2 => ?_) (fun ej2 => ?_)
    · intro _ _
      refine wp_istore (ls1 := [_, _, _, _, _, _, _, some _, _]) dX12_cutsOne_39 (by decide) rfl ?_
      refine wp_iload dX12_cutsOne_41 rfl ?_
      refine wp_iconst (v := (-1)) dX12_cutsOne_43 (by decide +kernel) ?_
      refine wp_icmp_eq dX12_cutsOne_44 (fun q => absurd q (nI_ne_m1 (by omega))) (fun _ => ?_)
      refine wp_iload dX12_cutsOne_47 rfl ?_
      refine wp_iload_n dX12_cutsOne_49 rfl rfl ?_
      refine wp_icmp_ltN dX12_cutsOne_50 rfl rfl ⟨by omega, by omega⟩ (fun c4 => ?_) (fun c4 => ?_)
      · refine wp_iload dX12_cutsOne_55 rfl ?_
        refine wp_iconst (v := (-1)) dX12_cutsOne_57 (by decide +kernel) ?_
        refine wp_icmp_ne dX12_cutsOne_58 (fun c5 => ?_) (fun c5 => ?_)
        · refine wp_aload_n dX12_cutsOne_65 rfl rfl ?_
          refine wp_iload dX12_cutsOne_66 rfl ?_
          refine wp_iconst (v := (nI 1)) dX12_cutsOne_68 (by decide +kernel) ?_
          refine wp_iadd dX12_cutsOne_69 ?_
          refine wp_iload_n dX12_cutsOne_70 rfl rfl ?_
          refine wp_iload dX12_cutsOne_71 rfl ?_
          refine wp_cV3 1 22 [some _, some _, some _, some _, none] dX12_cutsOne_73 tX12_first rfl (by decide) nX12_first vX12_first lX12_330 ⟨by decide, by decide⟩ (Nat.le_of_ble_eq_true rfl) (mO hm) (Nat.le_of_ble_eq_true rfl) rfl ?_
          rw [nI_add]
          refine pX12_first hm (by omega) (fun j6 ej6 hj6 gj6 => ?_) (fun ej6 => ?_)
          · intro _ _
            refine wp_istore (ls1 := [_, _, _, _, _, _, _, _, some _]) dX12_cutsOne_76 (by decide) rfl ?_
            refine wp_iload dX12_cutsOne_78 rfl ?_
            refine wp_iconst (v := (-1)) dX12_cutsOne_80 (by decide +kernel) ?_
            refine wp_icmp_ne dX12_cutsOne_81 (fun _ => ?_) (fun q => absurd q (nI_ne_m1 (by omega)))
            refine wp_aload_n dX12_cutsOne_86 rfl rfl ?_
            refine wp_getR dX12_cutsOne_87 lX12_64 rfl (mO hm) (mR_cutFrom hm) ?_
            refine wp_aload_n dX12_cutsOne_90 rfl rfl ?_
            refine wp_getI dX12_cutsOne_91 lX12_337 rfl (mO hm) ?_
            refine wp_iload dX12_cutsOne_94 rfl ?_
            refine wp_iastN dX12_cutsOne_96 (mA_cutFrom hm) hc ⟨by omega, by decide⟩ ?_
            refine wp_aload_n dX12_cutsOne_97 rfl rfl ?_
            refine wp_getR dX12_cutsOne_98 lX12_67 rfl (mO hm) (mR_cutTo hm) ?_
            refine wp_aload_n dX12_cutsOne_101 rfl rfl ?_
            refine wp_getI dX12_cutsOne_102 lX12_337 rfl (mO hm) ?_
            refine wp_iload dX12_cutsOne_105 rfl ?_
            refine wp_iastN dX12_cutsOne_107 (mA_cutTo hm) hc ⟨by omega, by decide⟩ ?_
            refine wp_aload_n dX12_cutsOne_108 rfl rfl ?_
            refine wp_dup dX12_cutsOne_109 rfl ?_
            refine wp_getI dX12_cutsOne_110 lX12_337 rfl (mO hm) ?_
            refine wp_iconst (v := (nI 1)) dX12_cutsOne_113 (by decide +kernel) ?_
            refine wp_iadd dX12_cutsOne_114 ?_
            refine wp_putIN dX12_cutsOne_115 lX12_337 rfl rfl (Or.inl rfl) (mO hm) (isN_add hc rfl) ?_
            refine wp_iconst (v := (nI 1)) dX12_cutsOne_118 (by decide +kernel) ?_
            refine wp_zreturn dX12_cutsOne_119 rfl (Or.inr rfl) ?_
            refine hs _ _ ?_ (by omega) (by omega) (by omega)
            unfold cut1
            simp only [*, if_true, if_false, Option.map_some, Option.map_none, Option.bind_some, Option.bind_none, reduceCtorEq]
            first | rfl | (rw [if_pos (by omega)]; first | rfl | simp [*]) | skip
          · intro _ _
            refine wp_istore (ls1 := [_, _, _, _, _, _, _, _, some _]) dX12_cutsOne_76 (by decide) rfl ?_
            refine wp_iload dX12_cutsOne_78 rfl ?_
            refine wp_iconst (v := (-1)) dX12_cutsOne_80 (by decide +kernel) ?_
            refine wp_icmp_ne dX12_cutsOne_81 (fun q => absurd rfl q) (fun _ => ?_)
            refine wp_iconst (v := (nI 0)) dX12_cutsOne_84 (by decide +kernel) ?_
            refine wp_zreturn dX12_cutsOne_85 rfl (Or.inl rfl) ?_
            refine hn ?_
            unfold cut1
            simp only [*, if_true, if_false, Option.map_some, Option.map_none, Option.bind_some, Option.bind_none, reduceCtorEq]
            first | rfl | (rw [if_neg (by omega)]) | (rw [if_pos (by omega)]; simp [*]) | skip
        · refine wp_iload_n dX12_cutsOne_61 rfl rfl ?_
          refine wp_goto dX12_cutsOne_62 ?_
          refine wp_istore (ls1 := [_, _, _, _, _, _, _, _, some _]) dX12_cutsOne_76 (by decide) rfl ?_
          refine wp_iload dX12_cutsOne_78 rfl ?_
          refine wp_iconst (v := (-1)) dX12_cutsOne_80 (by decide +kernel) ?_
          refine wp_icmp_ne dX12_cutsOne_81 (fun _ => ?_) (fun q => absurd q (nI_ne_m1 (by omega)))
          refine wp_aload_n dX12_cutsOne_86 rfl rfl ?_
          refine wp_getR dX12_cutsOne_87 lX12_64 rfl (mO hm) (mR_cutFrom hm) ?_
          refine wp_aload_n dX12_cutsOne_90 rfl rfl ?_
          refine wp_getI dX12_cutsOne_91 lX12_337 rfl (mO hm) ?_
          refine wp_iload dX12_cutsOne_94 rfl ?_
          refine wp_iastN dX12_cutsOne_96 (mA_cutFrom hm) hc ⟨by omega, by decide⟩ ?_
          refine wp_aload_n dX12_cutsOne_97 rfl rfl ?_
          refine wp_getR dX12_cutsOne_98 lX12_67 rfl (mO hm) (mR_cutTo hm) ?_
          refine wp_aload_n dX12_cutsOne_101 rfl rfl ?_
          refine wp_getI dX12_cutsOne_102 lX12_337 rfl (mO hm) ?_
          refine wp_iload dX12_cutsOne_105 rfl ?_
          refine wp_iastN dX12_cutsOne_107 (mA_cutTo hm) hc ⟨by omega, by decide⟩ ?_
          refine wp_aload_n dX12_cutsOne_108 rfl rfl ?_
          refine wp_dup dX12_cutsOne_109 rfl ?_
          refine wp_getI dX12_cutsOne_110 lX12_337 rfl (mO hm) ?_
          refine wp_iconst (v := (nI 1)) dX12_cutsOne_113 (by decide +kernel) ?_
          refine wp_iadd dX12_cutsOne_114 ?_
          refine wp_putIN dX12_cutsOne_115 lX12_337 rfl rfl (Or.inl rfl) (mO hm) (isN_add hc rfl) ?_
          refine wp_iconst (v := (nI 1)) dX12_cutsOne_118 (by decide +kernel) ?_
          refine wp_zreturn dX12_cutsOne_119 rfl (Or.inr rfl) ?_
          refine hs _ _ ?_ (by omega) (by omega) (by omega)
          unfold cut1
          simp only [*, if_true, if_false, Option.map_some, Option.map_none, Option.bind_some, Option.bind_none, reduceCtorEq]
          first | rfl | (rw [if_pos (by omega)]; first | rfl | simp [*]) | skip
      · refine wp_iconst (v := (nI 0)) dX12_cutsOne_53 (by decide +kernel) ?_
        refine wp_zreturn dX12_cutsOne_54 rfl (Or.inl rfl) ?_
        refine hn ?_
        unfold cut1
        simp only [*, if_true, if_false, Option.map_some, Option.map_none, Option.bind_some, Option.bind_none, reduceCtorEq]
        first | rfl | (rw [if_neg (by omega)]) | (rw [if_pos (by omega)]; simp [*]) | skip
    · intro _ _
      refine wp_istore (ls1 := [_, _, _, _, _, _, _, some _, _]) dX12_cutsOne_39 (by decide) rfl ?_
      refine wp_iload dX12_cutsOne_41 rfl ?_
      refine wp_iconst (v := (-1)) dX12_cutsOne_43 (by decide +kernel) ?_
      refine wp_icmp_eq dX12_cutsOne_44 (fun _ => ?_) (fun q => absurd rfl q)
      refine wp_iconst (v := (nI 0)) dX12_cutsOne_53 (by decide +kernel) ?_
      refine wp_zreturn dX12_cutsOne_54 rfl (Or.inl rfl) ?_
      refine hn ?_
      unfold cut1
      simp only [*, if_true, if_false, Option.map_some, Option.map_none, Option.bind_some, Option.bind_none, reduceCtorEq]
      first | rfl | (rw [if_neg (by omega)]) | (rw [if_pos (by omega)]; simp [*]) | skip
  · refine wp_aload_n dX12_cutsOne_8 rfl rfl ?_
    refine wp_iload_n dX12_cutsOne_9 rfl rfl ?_
    refine wp_iload_n dX12_cutsOne_10 rfl rfl ?_
    refine wp_iload_n dX12_cutsOne_11 rfl rfl ?_
    refine wp_cV3 1 22 [some _, some _, some _, some _, none] dX12_cutsOne_12 tX12_first rfl (by decide) nX12_first vX12_first lX12_330 ⟨by decide, by decide⟩ (Nat.le_of_ble_eq_true rfl) (mO hm) (Nat.le_of_ble_eq_true rfl) rfl ?_
    refine pX12_first hm (by omega) (fun j11 ej11 hj11 gj11 => ?_) (fun ej11 => ?_)
    · intro _ _
      refine wp_istore (ls1 := [_, _, _, _, _, _, _, some _, _]) dX12_cutsOne_15 (by decide) rfl ?_
      refine wp_iload dX12_cutsOne_17 rfl ?_
      refine wp_iconst (v := (-1)) dX12_cutsOne_19 (by decide +kernel) ?_
      refine wp_icmp_ne dX12_cutsOne_20 (fun _ => ?_) (fun q => absurd q (nI_ne_m1 (by omega)))
      refine wp_iinc1 (ls1 := [_, _, _, _, _, _, _, some _, _]) dX12_cutsOne_25 rfl (by decide) rfl ?_
      refine wp_aload_n dX12_cutsOne_28 rfl rfl ?_
      refine wp_iload dX12_cutsOne_29 rfl ?_
      refine wp_iload_n dX12_cutsOne_31 rfl rfl ?_
      refine wp_iload dX12_cutsOne_32 rfl ?_
      refine wp_iload dX12_cutsOne_34 rfl ?_
      refine wp_cV4 2 46 [some _, some _, some _, some _, some _, none] dX12_cutsOne_36 tX12_behindNear rfl (by decide) nX12_behindNear vX12_behindNear lX12_333 ⟨by decide, by decide⟩ (Nat.le_of_ble_eq_true rfl) (mO hm) (Nat.le_of_ble_eq_true rfl) rfl ?_
      refine pX12_behindNear hm (by omega) (by omega) (fun j13 ej13 hj13 gj13 => ?_) (fun ej13 => ?_)
      · intro _ _
        refine wp_istore (ls1 := [_, _, _, _, _, _, _, some _, _]) dX12_cutsOne_39 (by decide) rfl ?_
        refine wp_iload dX12_cutsOne_41 rfl ?_
        refine wp_iconst (v := (-1)) dX12_cutsOne_43 (by decide +kernel) ?_
        refine wp_icmp_eq dX12_cutsOne_44 (fun q => absurd q (nI_ne_m1 (by omega))) (fun _ => ?_)
        refine wp_iload dX12_cutsOne_47 rfl ?_
        refine wp_iload_n dX12_cutsOne_49 rfl rfl ?_
        refine wp_icmp_ltN dX12_cutsOne_50 rfl rfl ⟨by omega, by omega⟩ (fun c15 => ?_) (fun c15 => ?_)
        · refine wp_iload dX12_cutsOne_55 rfl ?_
          refine wp_iconst (v := (-1)) dX12_cutsOne_57 (by decide +kernel) ?_
          refine wp_icmp_ne dX12_cutsOne_58 (fun c16 => ?_) (fun c16 => ?_)
          · refine wp_aload_n dX12_cutsOne_65 rfl rfl ?_
            refine wp_iload dX12_cutsOne_66 rfl ?_
            refine wp_iconst (v := (nI 1)) dX12_cutsOne_68 (by decide +kernel) ?_
            refine wp_iadd dX12_cutsOne_69 ?_
            refine wp_iload_n dX12_cutsOne_70 rfl rfl ?_
            refine wp_iload dX12_cutsOne_71 rfl ?_
            refine wp_cV3 1 22 [some _, some _, some _, some _, none] dX12_cutsOne_73 tX12_first rfl (by decide) nX12_first vX12_first lX12_330 ⟨by decide, by decide⟩ (Nat.le_of_ble_eq_true rfl) (mO hm) (Nat.le_of_ble_eq_true rfl) rfl ?_
            rw [nI_add]
            refine pX12_first hm (by omega) (fun j17 ej17 hj17 gj17 => ?_) (fun ej17 => ?_)
            · intro _ _
              refine wp_istore (ls1 := [_, _, _, _, _, _, _, _, some _]) dX12_cutsOne_76 (by decide) rfl ?_
              refine wp_iload dX12_cutsOne_78 rfl ?_
              refine wp_iconst (v := (-1)) dX12_cutsOne_80 (by decide +kernel) ?_
              refine wp_icmp_ne dX12_cutsOne_81 (fun _ => ?_) (fun q => absurd q (nI_ne_m1 (by omega)))
              refine wp_aload_n dX12_cutsOne_86 rfl rfl ?_
              refine wp_getR dX12_cutsOne_87 lX12_64 rfl (mO hm) (mR_cutFrom hm) ?_
              refine wp_aload_n dX12_cutsOne_90 rfl rfl ?_
              refine wp_getI dX12_cutsOne_91 lX12_337 rfl (mO hm) ?_
              refine wp_iload dX12_cutsOne_94 rfl ?_
              refine wp_iastN dX12_cutsOne_96 (mA_cutFrom hm) hc ⟨by omega, by decide⟩ ?_
              refine wp_aload_n dX12_cutsOne_97 rfl rfl ?_
              refine wp_getR dX12_cutsOne_98 lX12_67 rfl (mO hm) (mR_cutTo hm) ?_
              refine wp_aload_n dX12_cutsOne_101 rfl rfl ?_
              refine wp_getI dX12_cutsOne_102 lX12_337 rfl (mO hm) ?_
              refine wp_iload dX12_cutsOne_105 rfl ?_
              refine wp_iastN dX12_cutsOne_107 (mA_cutTo hm) hc ⟨by omega, by decide⟩ ?_
              refine wp_aload_n dX12_cutsOne_108 rfl rfl ?_
              refine wp_dup dX12_cutsOne_109 rfl ?_
              refine wp_getI dX12_cutsOne_110 lX12_337 rfl (mO hm) ?_
              refine wp_iconst (v := (nI 1)) dX12_cutsOne_113 (by decide +kernel) ?_
              refine wp_iadd dX12_cutsOne_114 ?_
              refine wp_putIN dX12_cutsOne_115 lX12_337 rfl rfl (Or.inl rfl) (mO hm) (isN_add hc rfl) ?_
              refine wp_iconst (v := (nI 1)) dX12_cutsOne_118 (by decide +kernel) ?_
              refine wp_zreturn dX12_cutsOne_119 rfl (Or.inr rfl) ?_
              refine hs _ _ ?_ (by omega) (by omega) (by omega)
              unfold cut1
              simp only [*, if_true, if_false, Option.map_some, Option.map_none, Option.bind_some, Option.bind_none, reduceCtorEq]
              first | rfl | (rw [if_pos (by omega)]; first | rfl | simp [*]) | skip
            · intro _ _
              refine wp_istore (ls1 := [_, _, _, _, _, _, _, _, some _]) dX12_cutsOne_76 (by decide) rfl ?_
              refine wp_iload dX12_cutsOne_78 rfl ?_
              refine wp_iconst (v := (-1)) dX12_cutsOne_80 (by decide +kernel) ?_
              refine wp_icmp_ne dX12_cutsOne_81 (fun q => absurd rfl q) (fun _ => ?_)
              refine wp_iconst (v := (nI 0)) dX12_cutsOne_84 (by decide +kernel) ?_
              refine wp_zreturn dX12_cutsOne_85 rfl (Or.inl rfl) ?_
              refine hn ?_
              unfold cut1
              simp only [*, if_true, if_false, Option.map_some, Option.map_none, Option.bind_some, Option.bind_none, reduceCtorEq]
              first | rfl | (rw [if_neg (by omega)]) | (rw [if_pos (by omega)]; simp [*]) | skip
          · refine wp_iload_n dX12_cutsOne_61 rfl rfl ?_
            refine wp_goto dX12_cutsOne_62 ?_
            refine wp_istore (ls1 := [_, _, _, _, _, _, _, _, some _]) dX12_cutsOne_76 (by decide) rfl ?_
            refine wp_iload dX12_cutsOne_78 rfl ?_
            refine wp_iconst (v := (-1)) dX12_cutsOne_80 (by decide +kernel) ?_
            refine wp_icmp_ne dX12_cutsOne_81 (fun _ => ?_) (fun q => absurd q (nI_ne_m1 (by omega)))
            refine wp_aload_n dX12_cutsOne_86 rfl rfl ?_
            refine wp_getR dX12_cutsOne_87 lX12_64 rfl (mO hm) (mR_cutFrom hm) ?_
            refine wp_aload_n dX12_cutsOne_90 rfl rfl ?_
            refine wp_getI dX12_cutsOne_91 lX12_337 rfl (mO hm) ?_
            refine wp_iload dX12_cutsOne_94 rfl ?_
            refine wp_iastN dX12_cutsOne_96 (mA_cutFrom hm) hc ⟨by omega, by decide⟩ ?_
            refine wp_aload_n dX12_cutsOne_97 rfl rfl ?_
            refine wp_getR dX12_cutsOne_98 lX12_67 rfl (mO hm) (mR_cutTo hm) ?_
            refine wp_aload_n dX12_cutsOne_101 rfl rfl ?_
            refine wp_getI dX12_cutsOne_102 lX12_337 rfl (mO hm) ?_
            refine wp_iload dX12_cutsOne_105 rfl ?_
            refine wp_iastN dX12_cutsOne_107 (mA_cutTo hm) hc ⟨by omega, by decide⟩ ?_
            refine wp_aload_n dX12_cutsOne_108 rfl rfl ?_
            refine wp_dup dX12_cutsOne_109 rfl ?_
            refine wp_getI dX12_cutsOne_110 lX12_337 rfl (mO hm) ?_
            refine wp_iconst (v := (nI 1)) dX12_cutsOne_113 (by decide +kernel) ?_
            refine wp_iadd dX12_cutsOne_114 ?_
            refine wp_putIN dX12_cutsOne_115 lX12_337 rfl rfl (Or.inl rfl) (mO hm) (isN_add hc rfl) ?_
            refine wp_iconst (v := (nI 1)) dX12_cutsOne_118 (by decide +kernel) ?_
            refine wp_zreturn dX12_cutsOne_119 rfl (Or.inr rfl) ?_
            refine hs _ _ ?_ (by omega) (by omega) (by omega)
            unfold cut1
            simp only [*, if_true, if_false, Option.map_some, Option.map_none, Option.bind_some, Option.bind_none, reduceCtorEq]
            first | rfl | (rw [if_pos (by omega)]; first | rfl | simp [*]) | skip
        · refine wp_iconst (v := (nI 0)) dX12_cutsOne_53 (by decide +kernel) ?_
          refine wp_zreturn dX12_cutsOne_54 rfl (Or.inl rfl) ?_
          refine hn ?_
          unfold cut1
          simp only [*, if_true, if_false, Option.map_some, Option.map_none, Option.bind_some, Option.bind_none, reduceCtorEq]
          first | rfl | (rw [if_neg (by omega)]) | (rw [if_pos (by omega)]; simp [*]) | skip
      · intro _ _
        refine wp_istore (ls1 := [_, _, _, _, _, _, _, some _, _]) dX12_cutsOne_39 (by decide) rfl ?_
        refine wp_iload dX12_cutsOne_41 rfl ?_
        refine wp_iconst (v := (-1)) dX12_cutsOne_43 (by decide +kernel) ?_
        refine wp_icmp_eq dX12_cutsOne_44 (fun _ => ?_) (fun q => absurd rfl q)
        refine wp_iconst (v := (nI 0)) dX12_cutsOne_53 (by decide +kernel) ?_
        refine wp_zreturn dX12_cutsOne_54 rfl (Or.inl rfl) ?_
        refine hn ?_
        unfold cut1
        simp only [*, if_true, if_false, Option.map_some, Option.map_none, Option.bind_some, Option.bind_none, reduceCtorEq]
        first | rfl | (rw [if_neg (by omega)]) | (rw [if_pos (by omega)]; simp [*]) | skip
    · intro _ _
      refine wp_istore (ls1 := [_, _, _, _, _, _, _, some _, _]) dX12_cutsOne_15 (by decide) rfl ?_
      refine wp_iload dX12_cutsOne_17 rfl ?_
      refine wp_iconst (v := (-1)) dX12_cutsOne_19 (by decide +kernel) ?_
      refine wp_icmp_ne dX12_cutsOne_20 (fun q => absurd rfl q) (fun _ => ?_)
      refine wp_iconst (v := (nI 0)) dX12_cutsOne_23 (by decide +kernel) ?_
      refine wp_zreturn dX12_cutsOne_24 rfl (Or.inl rfl) ?_
      refine hn ?_
      unfold cut1
      simp only [*, if_true, if_false, Option.map_some, Option.map_none, Option.bind_some, Option.bind_none, reduceCtorEq]
      first | rfl | (rw [if_neg (by omega)]) | (rw [if_pos (by omega)]; simp [*]) | skip
