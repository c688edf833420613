/-! ===== all parts cut out of a region; the row of a page ===== -/
def cutsH : mH → Nat → List (Nat × Nat) → mH
  | h, _, [] => h
  | h, c, q :: r => cutsH (cutH h c q.1 q.2) (c + 1) r
theorem pm_cutH (h : mH) (c x y : Nat) : pm (cutH h c x y) = pm h := by
  funext a k
  rfl
theorem pm_cuts0 (h : mH) (v : Int32) : pm (sI h 153 35 v) = pm h := by
  funext a k
  rfl
theorem mS_cutH {h : mH} {c x y : Nat} (s : mS h) : mS (cutH h c x y) := s
set_option maxRecDepth 20000 in
theorem pX12_cutsRegion {h : mH} {Q : Option Value → mH → Prop} {a b : Nat} {z far near sec stop : Int32} (hm : mS h) (hz : z = 0 ∨ z = 1) (hab : a ≤ b ∧ b ≤ 40) (h0 : z = 0 → Q none (cutsH (sI h 153 35 (nI 0)) 0 (cutL (pm h) b far near sec stop 1 a))) (h8 : z = 1 → Q none (cutsH (sI h 153 35 (nI 0)) 0 (cutL (pm h) b far near sec stop 8 a))) : Wp mX12_cutsRegion 4 99 0 [some (.ref 153), some (.int z), some (.int (nI a)), some (.int (nI b)), some (.int far), some (.int near), some (.int sec), some (.int stop), none] [] h Q := by
  have hloop : ∀ (n c e : Nat) (h1 : mH), 1 ≤ c → c ≤ 8 → hI h1 153 35 = nI c → hI h1 170 (c - 1) = nI e → e ≤ b → pm h1 = pm h → mS h1 → (z = 1 → Q none (cutsH h1 c (cutL (pm h) b far near sec stop (8 - c) e))) → (z = 0 → Q none h1) → 8 < c + n → Wp mX12_cutsRegion 4 99 21 [some (.ref 153), some (.int z), some (.int (nI a)), some (.int (nI b)), some (.int far), some (.int near), some (.int sec), some (.int stop), some (.int (nI 1))] [] h1 Q := by
    intro n
    induction n with
    | zero => intros; omega
    | succ n ih =>
      intro c e h1 hcl hcu hc1 he1 heb hpm hm1 hq hq0 hmz
      refine wp_iload dX12_cutsRegion_21 rfl ?_
      refine wp_if_eq dX12_cutsRegion_23 (fun q => absurd q (by decide +kernel)) (fun _ => ?_)
      refine wp_iload_n dX12_cutsRegion_26 rfl rfl ?_
      refine wp_if_eq dX12_cutsRegion_27 (fun c2 => ?_) (fun c2 => ?_)
      · refine wp_vreturn dX12_cutsRegion_68 rfl ?_
        first | exact hq0 (by assumption) | (have hq1 := hq (hz.resolve_left (by assumption)); rw [show c = 8 by omega] at hq1 ⊢; exact hq1)
      · refine wp_aload_n dX12_cutsRegion_30 rfl rfl ?_
        refine wp_getI dX12_cutsRegion_31 lX12_337 rfl (mO hm1) ?_
        refine wp_bipush (v := (nI 8)) dX12_cutsRegion_34 (by decide +kernel) ?_
        have hz1 := hz.resolve_left (by assumption)
        refine wp_icmp_geN dX12_cutsRegion_36 hc1 rfl ⟨by omega, by decide⟩ (fun c8 => ?_) (fun c8 => ?_)
        · refine wp_vreturn dX12_cutsRegion_68 rfl ?_
          have hq1 := hq hz1
          rw [show 8 - c = 0 by omega] at hq1
          exact hq1
        refine wp_aload_n dX12_cutsRegion_39 rfl rfl ?_
        refine wp_aload_n dX12_cutsRegion_40 rfl rfl ?_
        refine wp_getR dX12_cutsRegion_41 lX12_67 rfl (mO hm1) (mR_cutTo hm1) ?_
        refine wp_aload_n dX12_cutsRegion_44 rfl rfl ?_
        refine wp_getI dX12_cutsRegion_45 lX12_337 rfl (mO hm1) ?_
        refine wp_iconst (v := (nI 1)) dX12_cutsRegion_48 (by decide +kernel) ?_
        refine wp_isub dX12_cutsRegion_49 ?_
        refine wp_ialdN dX12_cutsRegion_50 (mA_cutTo hm1) (isN_sub hc1 rfl (by omega)) ⟨by omega, by decide⟩ ?_
        refine wp_iload_n dX12_cutsRegion_51 rfl rfl ?_
        refine wp_iload dX12_cutsRegion_52 rfl ?_
        refine wp_iload dX12_cutsRegion_54 rfl ?_
        refine wp_iload dX12_cutsRegion_56 rfl ?_
        refine wp_iload dX12_cutsRegion_58 rfl ?_
        refine wp_cV6 3 71 [some _, some _, some _, some _, some _, some _, some _, none, none] dX12_cutsRegion_60 tX12_cutsOne rfl (by decide) nX12_cutsOne vX12_cutsOne lX12_340 ⟨by decide, by decide⟩ (Nat.le_of_ble_eq_true rfl) (mO hm1) (Nat.le_of_ble_eq_true rfl) rfl ?_
        rw [he1]; refine pX12_cutsOne hm1 (by omega) hc1 ⟨by omega, by omega⟩ (fun x4 y4 e4 g14 g24 g34 => ?_) (fun e4 => ?_)
        · intro _ _
          refine wp_istore (ls1 := [_, _, _, _, _, _, _, _, some _]) dX12_cutsRegion_63 (by decide) rfl ?_
          refine wp_goto dX12_cutsRegion_65 ?_
          refine ih (c + 1) y4 _ (by omega) (by omega) rfl (by rw [Nat.add_sub_cancel]; show (if 170 = 170 ∧ c = c then _ else _) = _; rw [if_pos ⟨rfl, rfl⟩]) (by omega) (by rw [pm_cutH]; exact hpm) (mS_cutH hm1) ?_ (fun z0 => absurd hz1 (by rw [z0]; decide)) (by omega)
          rw [hpm] at e4
          intro _
          have hq1 := hq hz1
          rw [show 8 - c = (8 - (c + 1)) + 1 by omega] at hq1
          unfold cutL at hq1
          rw [e4] at hq1
          exact hq1
        · intro _ _
          refine wp_istore (ls1 := [_, _, _, _, _, _, _, _, some _]) dX12_cutsRegion_63 (by decide) rfl ?_
          refine wp_goto dX12_cutsRegion_65 ?_
          refine wp_iload dX12_cutsRegion_21 rfl ?_
          refine wp_if_eq dX12_cutsRegion_23 (fun _ => ?_) (fun q => absurd rfl q)
          refine wp_vreturn dX12_cutsRegion_68 rfl ?_
          rw [hpm] at e4
          have hq1 := hq hz1
          rw [show 8 - c = (8 - (c + 1)) + 1 by omega] at hq1
          unfold cutL at hq1
          rw [e4] at hq1
          exact hq1
  refine wp_aload_n dX12_cutsRegion_0 rfl rfl ?_
  refine wp_iconst (v := (nI 0)) dX12_cutsRegion_1 (by decide +kernel) ?_
  refine wp_putI dX12_cutsRegion_2 lX12_337 rfl (Or.inl rfl) (mO hm) rfl rfl ?_
  refine wp_aload_n dX12_cutsRegion_5 rfl rfl ?_
  refine wp_iload_n dX12_cutsRegion_6 rfl rfl ?_
  refine wp_iload_n dX12_cutsRegion_7 rfl rfl ?_
  refine wp_iload dX12_cutsRegion_8 rfl ?_
  refine wp_iload dX12_cutsRegion_10 rfl ?_
  refine wp_iload dX12_cutsRegion_12 rfl ?_
  refine wp_iload dX12_cutsRegion_14 rfl ?_
  refine wp_cV6 3 71 [some _, some _, some _, some _, some _, some _, some _, none, none] dX12_cutsRegion_16 tX12_cutsOne rfl (by decide) nX12_cutsOne vX12_cutsOne lX12_340 ⟨by decide, by decide⟩ (Nat.le_of_ble_eq_true rfl) (mO hm) (Nat.le_of_ble_eq_true rfl) rfl ?_
  refine pX12_cutsOne (h := sI h 153 35 (nI 0)) (c := 0) hm (by decide) rfl ⟨by omega, by omega⟩ (fun x1 y1 e1 g11 g21 g31 => ?_) (fun e1 => ?_)
  · intro _ _
    refine wp_istore (ls1 := [_, _, _, _, _, _, _, _, some _]) dX12_cutsRegion_19 (by decide) rfl ?_
    rw [pm_cuts0] at e1
    refine hloop 8 1 y1 _ (by decide) (by decide) rfl rfl (by omega) (by rw [pm_cutH, pm_cuts0]) (mS_cutH hm) (fun z1 => ?_) (fun z0 => ?_) (by omega)
    · have hq1 := h8 z1
      unfold cutL at hq1
      rw [e1] at hq1
      exact hq1
    · have hq1 := h0 z0
      unfold cutL at hq1
      rw [e1] at hq1
      exact hq1
  · intro _ _
    refine wp_istore (ls1 := [_, _, _, _, _, _, _, _, some _]) dX12_cutsRegion_19 (by decide) rfl ?_
    refine wp_iload dX12_cutsRegion_21 rfl ?_
    refine wp_if_eq dX12_cutsRegion_23 (fun _ => ?_) (fun q => absurd rfl q)
    refine wp_vreturn dX12_cutsRegion_68 rfl ?_
    rw [pm_cuts0] at e1
    rcases hz with rfl | rfl
    · have hq1 := h0 rfl
      unfold cutL at hq1
      rw [e1] at hq1
      exact hq1
    · have hq1 := h8 rfl
      unfold cutL at hq1
      rw [e1] at hq1
      exact hq1
/-- the tokens of a page but one, as they are laid -/
def rowI (h0 h1 : mH) (p : Nat) (l : List Nat) : Prop := hI h1 153 32 = nI l.length ∧ ∀ j, j < l.length → hI h1 167 j = hI h0 164 (40 * p + l.getD j 0) ∧ hI h1 168 j = hI h0 165 (40 * p + l.getD j 0)
def rowL (but : Int32) (k : Nat) : List Nat := (List.range k).filter (fun j => decide (¬ nI j = but))
theorem rowL_len (but : Int32) (k : Nat) : (rowL but k).length ≤ k := by
  unfold rowL
  have := List.length_filter_le (fun j => decide (¬ nI j = but)) (List.range k)
  rwa [List.length_range] at this
theorem rowL_in {but : Int32} {k : Nat} (h : ¬ nI k = but) : rowL but (k + 1) = rowL but k ++ [k] := by
  unfold rowL
  rw [List.range_succ, List.filter_append]
  congr 1
  simp [h]
theorem rowL_out {but : Int32} {k : Nat} (h : nI k = but) : rowL but (k + 1) = rowL but k := by
  unfold rowL
  rw [List.range_succ, List.filter_append]
  simp [h]
abbrev pwRow : Nat → Nat → Prop := mP [32] [167, 168]
theorem rowI_add {h0 h1 : mH} {p k : Nat} {l : List Nat} (hr : rowI h0 h1 p l) : rowI h0 (sI (sI (sI h1 167 l.length (hI h0 164 (40 * p + k))) 168 l.length (hI h0 165 (40 * p + k))) 153 32 (nI (l.length + 1))) p (l ++ [k]) := by
  refine ⟨by rw [hI_sI, if_pos ⟨rfl, rfl⟩, List.length_append]; rfl, fun j hj => ?_⟩
  rw [List.length_append] at hj
  have hj2 : j < l.length + 1 := hj
  rw [List.getD_eq_getElem?_getD]
  by_cases e : j = l.length
  · subst e
    rw [List.getElem?_append_right (Nat.le_refl _), Nat.sub_self]
    constructor
    · rw [hI_sI, if_neg (by omega), hI_sI, if_neg (by omega), hI_sI, if_pos ⟨rfl, rfl⟩]
      rfl
    · rw [hI_sI, if_neg (by omega), hI_sI, if_pos ⟨rfl, rfl⟩]
      rfl
  · rw [List.getElem?_append_left (by omega), ← List.getD_eq_getElem?_getD]
    have := hr.2 j (by omega)
    constructor
    · rw [hI_sI, if_neg (by omega), hI_sI, if_neg (by omega), hI_sI, if_neg (fun q => e q.2)]
      exact this.1
    · rw [hI_sI, if_neg (by omega), hI_sI, if_neg (fun q => e q.2), hI_sI, if_neg (by omega)]
      exact this.2
set_option maxRecDepth 20000 in
theorem pX12_laysRow {h : mH} {Q : Option Value → mH → Prop} {p : Nat} {but : Int32} (hm : mS h) (hw : WF (hL h 162)) (hp : p < 6) (hq : ∀ h', mFr pwRow h h' → rowI h h' p (rowL but (rT (hL h 162) p)) → Q none h') : Wp mX12_laysRow 1 21 0 [some (.ref 153), some (.int (nI p)), some (.int but), none] [] h Q := by
  have hT := (hw.2.1 p hp).2
  have hloop : ∀ (n k : Nat) (h1 : mH), k ≤ rT (hL h 162) p → mFr pwRow h h1 → rowI h h1 p (rowL but k) → 40 < k + n → Wp mX12_laysRow 1 21 7 [some (.ref 153), some (.int (nI p)), some (.int but), some (.int (nI k))] [] h1 Q := by
    intro n
    induction n with
    | zero => intros; omega
    | succ n ih =>
      intro k h1 hk hf1 hr1 hmz
      have hm1 := hf1.s hm
      have hrr : hL h1 162 = hL h 162 := hf1.Lr (by decide) (by decide)
      have hw1 : WF (hL h1 162) := by rw [hrr]; exact hw
      have hT1 : rT (hL h1 162) p = rT (hL h 162) p := by rw [hrr]
      have hll := rowL_len but k
      refine wp_iload_n dX12_laysRow_7 rfl rfl ?_
      refine wp_aload_n dX12_laysRow_8 rfl rfl ?_
      refine wp_iload_n dX12_laysRow_9 rfl rfl ?_
      refine wp_cV1 0 0 [some _, some _] dX12_laysRow_10 tX12_tokensOf rfl (by decide) nX12_tokensOf vX12_tokensOf lX12_273 ⟨by decide, by decide⟩ (Nat.le_of_ble_eq_true rfl) (mO hm1) (Nat.le_of_ble_eq_true rfl) rfl ?_
      refine pX12_tokensOf hm1 hw1 (by omega) ?_
      intro _ _
      refine wp_icmp_geN dX12_laysRow_13 rfl rfl ⟨by omega, by omega⟩ (fun c1 => ?_) (fun c1 => ?_)
      · refine wp_vreturn dX12_laysRow_80 rfl ?_
        rw [hrr] at c1
        exact hq h1 hf1 (by rw [show rT (hL h 162) p = k by omega]; exact hr1)
      · refine wp_iload_n dX12_laysRow_16 rfl rfl ?_
        refine wp_iload_n dX12_laysRow_17 rfl rfl ?_
        refine wp_icmp_ne dX12_laysRow_18 (fun c5 => ?_) (fun c5 => ?_)
        · refine wp_aload_n dX12_laysRow_24 rfl rfl ?_
          refine wp_getR dX12_laysRow_25 lX12_58 rfl (mO hm1) (mR_rowNumber hm1) ?_
          refine wp_aload_n dX12_laysRow_28 rfl rfl ?_
          refine wp_getI dX12_laysRow_29 lX12_324 rfl (mO hm1) ?_
          refine wp_aload_n dX12_laysRow_32 rfl rfl ?_
          refine wp_getR dX12_laysRow_33 lX12_49 rfl (mO hm1) (mR_numbers hm1) ?_
          refine wp_bipush (v := (nI 40)) dX12_laysRow_36 (by decide +kernel) ?_
          refine wp_iload_n dX12_laysRow_38 rfl rfl ?_
          refine wp_imul dX12_laysRow_39 ?_
          refine wp_iload_n dX12_laysRow_40 rfl rfl ?_
          refine wp_iadd dX12_laysRow_41 ?_
          refine wp_ialdN dX12_laysRow_42 (mA_numbers hm1) (isN_add (isN_mul rfl rfl) rfl) ⟨by omega, by decide⟩ ?_
          refine wp_iastN dX12_laysRow_43 (mA_rowNumber hm1) hr1.1 ⟨by omega, by decide⟩ ?_
          refine wp_aload_n dX12_laysRow_44 rfl rfl ?_
          refine wp_getR dX12_laysRow_45 lX12_61 rfl (mO hm1) (mR_rowKind hm1) ?_
          refine wp_aload_n dX12_laysRow_48 rfl rfl ?_
          refine wp_getI dX12_laysRow_49 lX12_324 rfl (mO hm1) ?_
          refine wp_aload_n dX12_laysRow_52 rfl rfl ?_
          refine wp_getR dX12_laysRow_53 lX12_52 rfl (mO hm1) (mR_kinds hm1) ?_
          refine wp_bipush (v := (nI 40)) dX12_laysRow_56 (by decide +kernel) ?_
          refine wp_iload_n dX12_laysRow_58 rfl rfl ?_
          refine wp_imul dX12_laysRow_59 ?_
          refine wp_iload_n dX12_laysRow_60 rfl rfl ?_
          refine wp_iadd dX12_laysRow_61 ?_
          refine wp_ialdN dX12_laysRow_62 (mA_kinds hm1) (isN_add (isN_mul rfl rfl) rfl) ⟨by omega, by decide⟩ ?_
          refine wp_iastN dX12_laysRow_63 (mA_rowKind hm1) hr1.1 ⟨by omega, by decide⟩ ?_
          refine wp_aload_n dX12_laysRow_64 rfl rfl ?_
          refine wp_dup dX12_laysRow_65 rfl ?_
          refine wp_getI dX12_laysRow_66 lX12_324 rfl (mO hm1) ?_
          refine wp_iconst (v := (nI 1)) dX12_laysRow_69 (by decide +kernel) ?_
          refine wp_iadd dX12_laysRow_70 ?_
          refine wp_putIN dX12_laysRow_71 lX12_324 rfl rfl (Or.inl rfl) (mO hm1) (isN_add hr1.1 rfl) ?_
          refine wp_iinc1 (ls1 := [_, _, _, some _]) dX12_laysRow_74 rfl (by decide) rfl ?_
          refine wp_goto dX12_laysRow_77 ?_
          refine ih (k + 1) _ (by omega) (((hf1.sI _ (Or.inr (by decide))).sI _ (Or.inr (by decide))).sI _ (Or.inl ⟨rfl, by decide⟩)) ?_ (by omega)
          rw [rowL_in (by assumption)]
          rw [hf1.I (by rintro (⟨q, -⟩ | q) <;> revert q <;> decide), show hI (sI h1 167 (rowL but k).length (hI h 164 (40 * p + k))) 165 (40 * p + k) = hI h 165 (40 * p + k) from hf1.I (by rintro (⟨q, -⟩ | q) <;> revert q <;> decide)]
          exact rowI_add hr1
        · refine wp_goto dX12_laysRow_21 ?_
          refine wp_iinc1 (ls1 := [_, _, _, some _]) dX12_laysRow_74 rfl (by decide) rfl ?_
          refine wp_goto dX12_laysRow_77 ?_
          exact ih (k + 1) h1 (by omega) hf1 (by rw [rowL_out (by assumption)]; exact hr1) (by omega)
  refine wp_aload_n dX12_laysRow_0 rfl rfl ?_
  refine wp_iconst (v := (nI 0)) dX12_laysRow_1 (by decide +kernel) ?_
  refine wp_putI dX12_laysRow_2 lX12_324 rfl (Or.inl rfl) (mO hm) rfl rfl ?_
  refine wp_iconst (v := (nI 0)) dX12_laysRow_5 (by decide +kernel) ?_
  refine wp_istore_n (ls1 := [_, _, _, some _]) dX12_laysRow_6 rfl (by decide) rfl ?_
  exact hloop 41 0 _ (by omega) (mFr.rf.sI _ (Or.inl ⟨rfl, by decide⟩)) ⟨by rw [hI_sI, if_pos ⟨rfl, rfl⟩]; rfl, fun j hj => absurd hj (Nat.not_lt_zero _)⟩ (by omega)
