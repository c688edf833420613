/-! ===== drift, pattern, strange, right ===== -/
def spPattern (r : Nat → Int64) (F : Nat) (x y : Int32) : Int32 := match ix x F with
  | some f => if r (655 + 70 * f) = 1 then (match ix y (lrS r f 0) with
    | some k => nI (lrS r f (4 + k))
    | none => -1) else -1
  | none => -1
def spDrift (r : Nat → Int64) (F : Nat) (pa my : Nat → Int32) (x y : Int32) : Int32 := match cnC r F x y with
  | some z => nI (dfV r pa my z.1 z.2)
  | none => -1
def sgF (r : Nat → Int64) (F : Nat) (pa my : Nat → Int32) (p : Nat) : Option Nat := fst1 (fun f => decide (r (655 + 70 * f) = 1 ∧ 0 < dfV r pa my p f)) 0 F
def sgP (r : Nat → Int64) (F : Nat) (pa my : Nat → Int32) : Option Nat := fst1 (fun p => (sgF r F pa my p).isSome) 0 (rP r)
def spStrange (r : Nat → Int64) (F : Nat) (pa my : Nat → Int32) (w : Int32) : Int32 := match ix w 2 with
  | some j => match sgP r F pa my with
    | some p => if j = 0 then nI p else nI ((sgF r F pa my p).getD 0)
    | none => -1
  | none => -1
def rgtB (r : Nat → Int64) (pa my : Nat → Int32) (f p : Nat) : Bool := decide (0 < rM r f p ∧ cuL (cbX r my f (pmR r p (-1)) (rgA r pa f p) (rgB r pa f p)) = mkL r f p)
def spRight (r : Nat → Int64) (F : Nat) (pa my : Nat → Int32) (x : Int32) : Int32 := match ix x F with
  | some f => if r (655 + 70 * f) = 1 then nI (cntB (rgtB r pa my f) (rP r)) else -1
  | none => -1
theorem dfR_le {r : Nat → Int64} {f : Nat} {W : Nat → Int64} {l : List (Nat × Nat)} : dfR r f W l ≤ 6 := by
  unfold dfR
  split
  · omega
  · exact dfM_le _
theorem dfV_le {r : Nat → Int64} {pa my : Nat → Int32} {p f : Nat} : dfV r pa my p f ≤ 6 := by
  unfold dfV
  split
  · exact dfR_le
  · omega
theorem srt_in {l : List (Nat × Nat)} {len : Nat} (h : srt l len) : ∀ i, i < l.length → (l.getD i (0, 0)).1 < (l.getD i (0, 0)).2 ∧ (l.getD i (0, 0)).2 ≤ len := fun i hi => ⟨(h i hi).1, (h i hi).2.1⟩
set_option maxRecDepth 20000 in
theorem pX12_driftOf {h : mH} {Q : Option Value → mH → Prop} {r : Nat → Int64} {F : Nat} {pa my : Nat → Int32} {p f : Nat} (hc : mC h r F pa my) (hd : sOK r F pa my) (hf : f < F) (hp : p < rP r) (hl1 : r (655 + 70 * f) = 1) (hq : ∀ {v} h', mFr (mP [24, 32, 35, 50] [163, 164, 165, 167, 168, 169, 170, 182]) h h' → dfV r pa my p f = v → Q (some (.int (nI v))) h') : Wp mX12_driftOf 8 198 0 [some (.ref 153), some (.int (nI p)), some (.int (nI f))] [] h Q := by
  have hF4 := hd.f4
  have hP6 := hd.w.1.2
  refine wp_aload_n dX12_driftOf_0 rfl rfl ?_
  refine wp_iload_n dX12_driftOf_1 rfl rfl ?_
  refine wp_iload_n dX12_driftOf_2 rfl rfl ?_
  refine wp_cV2 7 176 [some _, some _, some _] dX12_driftOf_3 tX12_cutsPage rfl (by decide) nX12_cutsPage vX12_cutsPage lX12_488 ⟨by decide, by decide⟩ (Nat.le_of_ble_eq_true rfl) (mO hc.1) (Nat.le_of_ble_eq_true rfl) rfl ?_
  refine pX12_cutsPage hc hd hf (by omega) (fun hh1 f1 nx1 rx1 k1 b1 => ?_)
  intro _ _
  have mc1 := hc.fr f1 (by decide) (by decide) (by decide) (by decide) (by decide)
  have hk8 := k1.2.1
  refine wp_aload_n dX12_driftOf_6 rfl rfl ?_
  refine wp_getIV dX12_driftOf_7 lX12_337 rfl (mO mc1.1) k1.1 ?_
  refine wp_if_neN dX12_driftOf_10 rfl (by omega) (fun c1 => ?_) (fun c1 => ?_)
  · obtain ⟨c9, hc9⟩ := cu_some hd hf (by assumption)
    refine wp_aload_n dX12_driftOf_15 rfl rfl ?_
    refine wp_iload_n dX12_driftOf_16 rfl rfl ?_
    refine wp_cV1 2 42 [some _, some _, none, none, none, none] dX12_driftOf_17 tX12_driftOfCuts rfl (by decide) nX12_driftOfCuts vX12_driftOfCuts lX12_500 ⟨by decide, by decide⟩ (Nat.le_of_ble_eq_true rfl) (mO mc1.1) (Nat.le_of_ble_eq_true rfl) rfl ?_
    refine pX12_driftOfCuts mc1 hd hf hl1 (by omega) rx1 k1 (srt_in (srt_cu hd hf)) ?_
    intro _ _
    refine wp_ireturn dX12_driftOf_20 rfl ?_
    refine hq _ (f1.up (by decide) (by decide)) ?_
    unfold dfV
    rw [hc9]
    rfl
  · have hn9 := cu_none hd hf (by assumption)
    refine wp_iconst (v := (nI 1)) dX12_driftOf_13 (by decide +kernel) ?_
    refine wp_ireturn dX12_driftOf_14 rfl ?_
    refine hq _ (f1.up (by decide) (by decide)) ?_
    unfold dfV
    rw [hn9]
set_option maxRecDepth 20000 in
theorem pX12_drift {h : mH} {Q : Option Value → mH → Prop} {r : Nat → Int64} {F : Nat} {pa my : Nat → Int32} {x y : Int32} (hc : mC h r F pa my) (hd : sOK r F pa my) (hq : ∀ {v} h', mFr pwS h h' → spDrift r F pa my x y = v → Q (some (.int v)) h') : Wp mX12_drift 9 220 0 [some (.ref 153), some (.int x), some (.int y)] [] h Q := by
  have hF4 := hd.f4
  have hP6 := hd.w.1.2
  refine wp_aload_n dX12_drift_0 rfl rfl ?_
  refine wp_iload_n dX12_drift_1 rfl rfl ?_
  refine wp_iload_n dX12_drift_2 rfl rfl ?_
  refine wp_cV2 2 43 [some _, some _, some _] dX12_drift_3 tX12_canCut rfl (by decide) nX12_canCut vX12_canCut lX12_485 ⟨by decide, by decide⟩ (Nat.le_of_ble_eq_true rfl) (mO hc.1) (Nat.le_of_ble_eq_true rfl) rfl ?_
  refine pX12_canCut hc hd (fun p1 q1 cn1 ex1 ey1 hp1 hf1 hl1 => ?_) (fun cn1 => ?_)
  · subst ex1
    subst ey1
    intro _ _
    refine wp_if_eq dX12_drift_6 (fun q => absurd q (by decide +kernel)) (fun _ => ?_)
    refine wp_aload_n dX12_drift_9 rfl rfl ?_
    refine wp_iload_n dX12_drift_10 rfl rfl ?_
    refine wp_iload_n dX12_drift_11 rfl rfl ?_
    refine wp_cV2 8 198 [some _, some _, some _] dX12_drift_12 tX12_driftOf rfl (by decide) nX12_driftOf vX12_driftOf lX12_503 ⟨by decide, by decide⟩ (Nat.le_of_ble_eq_true rfl) (mO hc.1) (Nat.le_of_ble_eq_true rfl) rfl ?_
    refine pX12_driftOf hc hd hf1 (by omega) hl1 (fun {v2} hh2 f2 ev2 => ?_)
    intro _ _
    have mc2 := hc.fr f2 (by decide) (by decide) (by decide) (by decide) (by decide)
    have vl2 : v2 ≤ 6 := ev2 ▸ dfV_le
    refine wp_goto dX12_drift_15 ?_
    refine wp_ireturn dX12_drift_19 rfl ?_
    exact hq _ (f2.up (by decide) (by decide)) (by unfold spDrift; rw [cn1]; exact congrArg nI ev2)
  · intro _ _
    refine wp_if_eq dX12_drift_6 (fun _ => ?_) (fun q => absurd q (by decide +kernel))
    refine wp_iconst (v := (-1)) dX12_drift_18 (by decide +kernel) ?_
    refine wp_ireturn dX12_drift_19 rfl ?_
    exact hq _ mFr.rf (by unfold spDrift; rw [cn1])
set_option maxRecDepth 20000 in
theorem pX12_pattern {h : mH} {Q : Option Value → mH → Prop} {r : Nat → Int64} {F : Nat} {pa my : Nat → Int32} {x y : Int32} (hc : mC h r F pa my) (hd : sOK r F pa my) (hq : ∀ {v}, spPattern r F x y = v → Q (some (.int v)) h) : Wp mX12_pattern 2 43 0 [some (.ref 153), some (.int x), some (.int y)] [] h Q := by
  have hF4 := hd.f4
  have hP6 := hd.w.1.2
  refine wp_aload_n dX12_pattern_0 rfl rfl ?_
  refine wp_iload_n dX12_pattern_1 rfl rfl ?_
  refine wp_cV1 1 22 [some _, some _] dX12_pattern_2 tX12_isField rfl (by decide) nX12_isField vX12_isField lX12_299 ⟨by decide, by decide⟩ (Nat.le_of_ble_eq_true rfl) (mO hc.1) (Nat.le_of_ble_eq_true rfl) rfl ?_
  refine pX12_isField' hc hd (fun j1 hj1 ej1 => ?_) (fun nj1 => ?_)
  · subst ej1
    have xs1 := ix_nI hj1 (by omega)
    intro _ _
    refine wp_if_eq dX12_pattern_5 (fun q => absurd q (by decide +kernel)) (fun _ => ?_)
    refine wp_aload_n dX12_pattern_8 rfl rfl ?_
    refine wp_iload_n dX12_pattern_9 rfl rfl ?_
    refine wp_cV1 1 20 [some _, some _] dX12_pattern_10 tX12_isLearnt rfl (by decide) nX12_isLearnt vX12_isLearnt lX12_466 ⟨by decide, by decide⟩ (Nat.le_of_ble_eq_true rfl) (mO hc.1) (Nat.le_of_ble_eq_true rfl) rfl ?_
    refine pX12_isLearnt' hc hd (by omega) (fun l2 => ?_) (fun l2 => ?_)
    · intro _ _
      refine wp_if_eq dX12_pattern_13 (fun q => absurd q (by decide +kernel)) (fun _ => ?_)
      refine wp_iload_n dX12_pattern_16 rfl rfl ?_
      refine wp_iconst (v := (nI 0)) dX12_pattern_17 (by decide +kernel) ?_
      refine wp_aload_n dX12_pattern_18 rfl rfl ?_
      refine wp_iload_n dX12_pattern_19 rfl rfl ?_
      refine wp_iconst (v := (nI 0)) dX12_pattern_20 (by decide +kernel) ?_
      refine wp_cV2 1 20 [some _, some _, some _] dX12_pattern_21 tX12_shapeOf rfl (by decide) nX12_shapeOf vX12_shapeOf lX12_469 ⟨by decide, by decide⟩ (Nat.le_of_ble_eq_true rfl) (mO hc.1) (Nat.le_of_ble_eq_true rfl) rfl ?_
      have h40 := (hd.ls j1 0 (by omega) (by omega)).2
      refine pX12_shapeOf' hc hd (by omega) (by omega) ?_
      intro _ _
      refine wp_iconst (v := (nI 1)) dX12_pattern_24 (by decide +kernel) ?_
      refine wp_isub dX12_pattern_25 ?_
      refine wp_cS3 0 0 [some _, some _, some _] dX12_pattern_26 tX12_isIn sX12_isIn lX12_147 ⟨by decide, by decide⟩ (Nat.le_of_ble_eq_true rfl) (Nat.le_of_ble_eq_true rfl) rfl ?_
      refine pX12_isIn (fun i3 => ?_) (fun i3 => ?_)
      · obtain ⟨j3, hj3, ej3⟩ := (ixN (by omega)).mp i3
        subst ej3
        have xs3 := ix_nI hj3 (by omega)
        intro _ _
        refine wp_if_eq dX12_pattern_29 (fun q => absurd q (by decide +kernel)) (fun _ => ?_)
        refine wp_aload_n dX12_pattern_32 rfl rfl ?_
        refine wp_iload_n dX12_pattern_33 rfl rfl ?_
        refine wp_iconst (v := (nI 4)) dX12_pattern_34 (by decide +kernel) ?_
        refine wp_iload_n dX12_pattern_35 rfl rfl ?_
        refine wp_iadd dX12_pattern_36 ?_
        refine wp_cV2 1 20 [some _, some _, some _] dX12_pattern_37 tX12_shapeOf rfl (by decide) nX12_shapeOf vX12_shapeOf lX12_469 ⟨by decide, by decide⟩ (Nat.le_of_ble_eq_true rfl) (mO hc.1) (Nat.le_of_ble_eq_true rfl) rfl ?_
        rw [nI_add]
        refine pX12_shapeOf' hc hd (by omega) (by omega) ?_
        intro _ _
        refine wp_goto dX12_pattern_40 ?_
        refine wp_ireturn dX12_pattern_44 rfl ?_
        refine hq ?_
        unfold spPattern
        simp only [xs1]
        rw [if_pos l2]
        simp only [*]
      · have xn3 := ix_none (by omega) (fun j hj ej => i3 ((ixN (by omega)).mpr ⟨j, hj, ej⟩))
        intro _ _
        refine wp_if_eq dX12_pattern_29 (fun _ => ?_) (fun q => absurd q (by decide +kernel))
        refine wp_iconst (v := (-1)) dX12_pattern_43 (by decide +kernel) ?_
        refine wp_ireturn dX12_pattern_44 rfl ?_
        refine hq ?_
        unfold spPattern
        first | (simp only [*]; done) | (simp only [xs1]; rw [if_neg (by rw [l2]; decide)]) | (simp only [xs1]; rw [if_pos l2]; simp only [*])
    · intro _ _
      refine wp_if_eq dX12_pattern_13 (fun _ => ?_) (fun q => absurd q (by decide +kernel))
      refine wp_iconst (v := (-1)) dX12_pattern_43 (by decide +kernel) ?_
      refine wp_ireturn dX12_pattern_44 rfl ?_
      refine hq ?_
      unfold spPattern
      first | (simp only [*]; done) | (simp only [xs1]; rw [if_neg (by rw [l2]; decide)]) | (simp only [xs1]; rw [if_pos l2]; simp only [*])
  · have xn1 := ix_none (by omega) nj1
    intro _ _
    refine wp_if_eq dX12_pattern_5 (fun _ => ?_) (fun q => absurd q (by decide +kernel))
    refine wp_iconst (v := (-1)) dX12_pattern_43 (by decide +kernel) ?_
    refine wp_ireturn dX12_pattern_44 rfl ?_
    refine hq ?_
    unfold spPattern
    first | (simp only [*]; done) | (simp only [xs1]; rw [if_neg (by rw [l2]; decide)]) | (simp only [xs1]; rw [if_pos l2]; simp only [*])
set_option maxRecDepth 20000 in
theorem strange_in {h : mH} {Q : Option Value → mH → Prop} {r : Nat → Int64} {F : Nat} {pa my : Nat → Int32} {p j : Nat} (hc : mC h r F pa my) (hd : sOK r F pa my) (hp : p < rP r) (hj : j < 2) (K0 : ∀ h', mFr (mP [24, 32, 35, 50] [163, 164, 165, 167, 168, 169, 170, 182]) h h' → mC h' r F pa my → sgF r F pa my p = none → Wp mX12_strange 9 220 64 [some (.ref 153), some (.int (nI j)), some (.int (nI p)), some (.int (nI F))] [] h' Q) (K1 : ∀ h' f, mFr (mP [24, 32, 35, 50] [163, 164, 165, 167, 168, 169, 170, 182]) h h' → sgF r F pa my p = some f → ∀ v, (if j = 0 then nI p else nI f) = v → Q (some (.int v)) h') : Wp mX12_strange 9 220 23 [some (.ref 153), some (.int (nI j)), some (.int (nI p)), some (.int (nI 0))] [] h Q := by
  have hF4 := hd.f4
  have hP6 := hd.w.1.2
  have hloop : ∀  (t9 : Nat) (f : Nat) (h1 : mH), (f ≤ F) → (mC h1 r F pa my) → (mFr (mP [24, 32, 35, 50] [163, 164, 165, 167, 168, 169, 170, 182]) h h1) → (∀ g, g < f → ¬ (r (655 + 70 * g) = 1 ∧ 0 < dfV r pa my p g)) → (F < f + t9) → Wp mX12_strange 9 220 23 [some (.ref 153), some (.int (nI j)), some (.int (nI p)), some (.int (nI f))] [] h1 Q := by
    intro t9
    induction t9 with
    | zero => intros; omega
    | succ t9 ih =>
      intro f h1 hff hc1 hf1 hno hmz
      refine wp_iload_n dX12_strange_23 rfl rfl ?_
      refine wp_aload_n dX12_strange_24 rfl rfl ?_
      refine wp_getIV dX12_strange_25 lX12_137 rfl (mO hc1.1) hc1.2.2.1 ?_
      refine wp_icmp_geN dX12_strange_28 rfl rfl ⟨by omega, by omega⟩ (fun c1 => ?_) (fun c1 => ?_)
      · have e9 : f = F := by omega
        subst e9
        exact K0 _ hf1 hc1 (fst1_no (fun g hg => decide_eq_false (hno g hg)))
      · refine wp_aload_n dX12_strange_31 rfl rfl ?_
        refine wp_iload_n dX12_strange_32 rfl rfl ?_
        refine wp_cV1 1 20 [some _, some _] dX12_strange_33 tX12_isLearnt rfl (by decide) nX12_isLearnt vX12_isLearnt lX12_466 ⟨by decide, by decide⟩ (Nat.le_of_ble_eq_true rfl) (mO hc1.1) (Nat.le_of_ble_eq_true rfl) rfl ?_
        refine pX12_isLearnt' hc1 hd (by omega) (fun l1 => ?_) (fun l1 => ?_)
        · intro _ _
          refine wp_if_eq dX12_strange_36 (fun q => absurd q (by decide +kernel)) (fun _ => ?_)
          refine wp_aload_n dX12_strange_39 rfl rfl ?_
          refine wp_iload_n dX12_strange_40 rfl rfl ?_
          refine wp_iload_n dX12_strange_41 rfl rfl ?_
          refine wp_cV2 8 198 [some _, some _, some _] dX12_strange_42 tX12_driftOf rfl (by decide) nX12_driftOf vX12_driftOf lX12_503 ⟨by decide, by decide⟩ (Nat.le_of_ble_eq_true rfl) (mO hc1.1) (Nat.le_of_ble_eq_true rfl) rfl ?_
          refine pX12_driftOf hc1 hd (by omega) (by omega) l1 (fun {v2} hh2 f2 ev2 => ?_)
          intro _ _
          have mc2 := hc1.fr f2 (by decide) (by decide) (by decide) (by decide) (by decide)
          have vl2 : v2 ≤ 6 := ev2 ▸ dfV_le
          refine wp_if_leN dX12_strange_45 rfl (by omega) (fun c3 => ?_) (fun c3 => ?_)
          · refine wp_iinc1 (ls1 := [_, _, _, some _]) dX12_strange_58 rfl (by decide) rfl ?_
            refine wp_goto dX12_strange_61 ?_
            refine ih (f + 1) _ (by omega) mc2 ((hf1.up (by decide) (by decide)).tr (f2.up (by decide) (by decide))) ?_ (by omega)
            intro g hg
            by_cases e9 : g = f
            · subst e9
              exact fun z9 => by have := z9.2; have := ev2; omega
            · exact hno g (by omega)
          · refine wp_iload_n dX12_strange_48 rfl rfl ?_
            refine wp_if_neN dX12_strange_49 rfl (by omega) (fun c4 => ?_) (fun c4 => ?_)
            · refine wp_iload_n dX12_strange_56 rfl rfl ?_
              refine wp_ireturn dX12_strange_57 rfl ?_
              refine K1 _ f ((hf1.up (by decide) (by decide)).tr (f2.up (by decide) (by decide))) (fst1_of (by omega) (decide_eq_true ⟨l1, by have := ev2; omega⟩) (fun g hg => decide_eq_false (hno g hg))) _ ?_
              first | exact if_pos (by omega) | exact if_neg (by omega)
            · refine wp_iload_n dX12_strange_52 rfl rfl ?_
              refine wp_goto dX12_strange_53 ?_
              refine wp_ireturn dX12_strange_57 rfl ?_
              refine K1 _ f ((hf1.up (by decide) (by decide)).tr (f2.up (by decide) (by decide))) (fst1_of (by omega) (decide_eq_true ⟨l1, by have := ev2; omega⟩) (fun g hg => decide_eq_false (hno g hg))) _ ?_
              first | exact if_pos (by omega) | exact if_neg (by omega)
        · intro _ _
          refine wp_if_eq dX12_strange_36 (fun _ => ?_) (fun q => absurd q (by decide +kernel))
          refine wp_iinc1 (ls1 := [_, _, _, some _]) dX12_strange_58 rfl (by decide) rfl ?_
          refine wp_goto dX12_strange_61 ?_
          refine ih (f + 1) _ (by omega) hc1 (hf1.up (by decide) (by decide)) ?_ (by omega)
          intro g hg
          by_cases e9 : g = f
          · subst e9
            exact fun z9 => absurd z9.1 (by rw [l1]; decide)
          · exact hno g (by omega)
  exact hloop (F + 1) 0 h (by omega) hc mFr.rf (fun g hg => by omega) (by omega)
set_option maxRecDepth 20000 in
theorem strange_out {h : mH} {Q : Option Value → mH → Prop} {r : Nat → Int64} {F : Nat} {pa my : Nat → Int32} {j : Nat} {x3 : Option Value} (hc : mC h r F pa my) (hd : sOK r F pa my) (hj : j < 2) (K9 : ∀ h' v, mFr (mP [24, 32, 35, 50] [163, 164, 165, 167, 168, 169, 170, 182]) h h' → (match sgP r F pa my with | some p => if j = 0 then nI p else nI ((sgF r F pa my p).getD 0) | none => -1) = v → Q (some (.int v)) h') : Wp mX12_strange 9 220 13 [some (.ref 153), some (.int (nI j)), some (.int (nI 0)), x3] [] h Q := by
  have hF4 := hd.f4
  have hP6 := hd.w.1.2
  have hloop : ∀  (t9 : Nat) (p : Nat) (x3 : Option Value) (h1 : mH), (p ≤ rP r) → (mC h1 r F pa my) → (mFr (mP [24, 32, 35, 50] [163, 164, 165, 167, 168, 169, 170, 182]) h h1) → (∀ q, q < p → sgF r F pa my q = none) → (rP r < p + t9) → Wp mX12_strange 9 220 13 [some (.ref 153), some (.int (nI j)), some (.int (nI p)), x3] [] h1 Q := by
    intro t9
    induction t9 with
    | zero => intros; omega
    | succ t9 ih =>
      intro p x3 h1 hpp hc1 hf1 hno hmz
      refine wp_iload_n dX12_strange_13 rfl rfl ?_
      refine wp_aload_n dX12_strange_14 rfl rfl ?_
      refine wp_cV0 0 0 [some _] dX12_strange_15 tX12_pages rfl (by decide) nX12_pages vX12_pages lX12_255 ⟨by decide, by decide⟩ (Nat.le_of_ble_eq_true rfl) (mO hc1.1) (Nat.le_of_ble_eq_true rfl) rfl ?_
      refine pX12_pages' hc1 hd ?_
      intro _ _
      refine wp_icmp_geN dX12_strange_18 rfl rfl ⟨by omega, by omega⟩ (fun c1 => ?_) (fun c1 => ?_)
      · refine wp_iconst (v := (-1)) dX12_strange_70 (by decide +kernel) ?_
        refine wp_ireturn dX12_strange_71 rfl ?_
        refine K9 _ _ hf1 ?_
        have hs9 : sgP r F pa my = none := fst1_no (fun q hq => by rw [hno q (by omega)]; rfl)
        rw [hs9]
      · refine wp_iconst (v := (nI 0)) dX12_strange_21 (by decide +kernel) ?_
        refine wp_istore_n (ls1 := [_, _, _, some _]) dX12_strange_22 rfl (by decide) rfl ?_
        refine strange_in hc1 hd (by omega) hj (fun hh1 f1 mc1 sn => ?_) (fun hh1 g9 f1 sn v9 ev9 => ?_)
        · refine wp_iinc1 (ls1 := [_, _, some _, _]) dX12_strange_64 rfl (by decide) rfl ?_
          refine wp_goto dX12_strange_67 ?_
          refine ih (p + 1) _ _ (by omega) mc1 ((hf1.up (by decide) (by decide)).tr (f1.up (by decide) (by decide))) ?_ (by omega)
          intro q hq
          by_cases e9 : q = p
          · rw [e9]; exact sn
          · exact hno q (by omega)
        · refine K9 _ _ (hf1.tr f1) ?_
          have hs9 : sgP r F pa my = some p := fst1_of (by omega) (by rw [sn]; rfl) (fun q hq => by rw [hno q hq]; rfl)
          rw [hs9]
          show (if j = 0 then nI p else nI ((sgF r F pa my p).getD 0)) = _
          rw [sn]
          exact ev9
  exact hloop (rP r + 1) 0 x3 h (by omega) hc mFr.rf (fun q hq => by omega) (by omega)
set_option maxRecDepth 20000 in
theorem pX12_strange {h : mH} {Q : Option Value → mH → Prop} {r : Nat → Int64} {F : Nat} {pa my : Nat → Int32} {w : Int32} (hc : mC h r F pa my) (hd : sOK r F pa my) (hq : ∀ {v} h', mFr pwS h h' → spStrange r F pa my w = v → Q (some (.int v)) h') : Wp mX12_strange 9 220 0 [some (.ref 153), some (.int w), none, none] [] h Q := by
  have hF4 := hd.f4
  have hP6 := hd.w.1.2
  refine wp_iload_n dX12_strange_0 rfl rfl ?_
  refine wp_iconst (v := (nI 0)) dX12_strange_1 (by decide +kernel) ?_
  refine wp_iconst (v := (nI 1)) dX12_strange_2 (by decide +kernel) ?_
  refine wp_cS3 0 0 [some _, some _, some _] dX12_strange_3 tX12_isIn sX12_isIn lX12_147 ⟨by decide, by decide⟩ (Nat.le_of_ble_eq_true rfl) (Nat.le_of_ble_eq_true rfl) rfl ?_
  refine pX12_isIn (fun i1 => ?_) (fun i1 => ?_)
  · obtain ⟨j1, hj1, ej1⟩ := (ixM (by decide)).mp i1
    subst ej1
    have xs1 := ix_nI (n := 2) (show j1 < 2 by omega) (by decide)
    intro _ _
    refine wp_if_ne dX12_strange_6 (fun _ => ?_) (fun q => absurd q (by decide +kernel))
    refine wp_iconst (v := (nI 0)) dX12_strange_11 (by decide +kernel) ?_
    refine wp_istore_n (ls1 := [_, _, some _, _]) dX12_strange_12 rfl (by decide) rfl ?_
    refine strange_out hc hd (by omega) (fun hh v9 f9 ev9 => hq _ (f9.up (by decide) (by decide)) ?_)
    unfold spStrange
    rw [xs1]
    exact ev9
  · have xn1 := ix_none (n := 2) (by decide) (fun j hj ej => i1 ((ixM (by decide)).mpr ⟨j, by omega, ej⟩))
    intro _ _
    refine wp_if_ne dX12_strange_6 (fun q => absurd q (by decide +kernel)) (fun _ => ?_)
    refine wp_iconst (v := (-1)) dX12_strange_9 (by decide +kernel) ?_
    refine wp_ireturn dX12_strange_10 rfl ?_
    refine hq _ mFr.rf ?_
    unfold spStrange
    rw [xn1]
set_option maxRecDepth 20000 in
theorem right_loop {h : mH} {Q : Option Value → mH → Prop} {r : Nat → Int64} {F : Nat} {pa my : Nat → Int32} {f : Nat} (hc : mC h r F pa my) (hd : sOK r F pa my) (nx : numX r h) (hf : f < F) (K9 : ∀ h', mFr (mP [32, 35, 50] [167, 168, 169, 170]) h h' → Q (some (.int (nI (cntB (rgtB r pa my f) (rP r))))) h') : Wp mX12_right 6 151 26 [some (.ref 153), some (.int (nI f)), some (.int (nI (cntB (rgtB r pa my f) 0))), some (.int (nI 0))] [] h Q := by
  have hF4 := hd.f4
  have hP6 := hd.w.1.2
  have hloop : ∀  (t9 : Nat) (p : Nat) (h1 : mH), (p ≤ rP r) → (mC h1 r F pa my) → (numX r h1) → (mFr (mP [32, 35, 50] [167, 168, 169, 170]) h h1) → (rP r < p + t9) → Wp mX12_right 6 151 26 [some (.ref 153), some (.int (nI f)), some (.int (nI (cntB (rgtB r pa my f) p))), some (.int (nI p))] [] h1 Q := by
    intro t9
    induction t9 with
    | zero => intros; omega
    | succ t9 ih =>
      intro p h1 hpp hc1 nx1 hf1 hmz
      refine wp_iload_n dX12_right_26 rfl rfl ?_
      refine wp_aload_n dX12_right_27 rfl rfl ?_
      refine wp_cV0 0 0 [some _] dX12_right_28 tX12_pages rfl (by decide) nX12_pages vX12_pages lX12_255 ⟨by decide, by decide⟩ (Nat.le_of_ble_eq_true rfl) (mO hc1.1) (Nat.le_of_ble_eq_true rfl) rfl ?_
      refine pX12_pages' hc1 hd ?_
      intro _ _
      refine wp_icmp_geN dX12_right_31 rfl rfl ⟨by omega, by omega⟩ (fun c1 => ?_) (fun c1 => ?_)
      · refine wp_iload_n dX12_right_102 rfl rfl ?_
        refine wp_ireturn dX12_right_103 rfl ?_
        have e9 : p = rP r := by omega
        subst e9
        exact K9 _ hf1
      · have hg := rg_le hd hf (show p < 6 by omega)
        have h48 := (hd.w.2.2 f p (by omega) (by omega)).1.2
        refine wp_aload_n dX12_right_34 rfl rfl ?_
        refine wp_iload_n dX12_right_35 rfl rfl ?_
        refine wp_iload_n dX12_right_36 rfl rfl ?_
        refine wp_cV2 1 21 [some _, some _, some _] dX12_right_37 tX12_partsOf rfl (by decide) nX12_partsOf vX12_partsOf lX12_302 ⟨by decide, by decide⟩ (Nat.le_of_ble_eq_true rfl) (mO hc1.1) (Nat.le_of_ble_eq_true rfl) rfl ?_
        refine pX12_partsOf' hc1 hd (by omega) (by omega) ?_
        intro _ _
        refine wp_if_neN dX12_right_40 rfl (by have h9 := (hd.w.2.2 f p (by omega) (by omega)).1.2; omega) (fun c2 => ?_) (fun c2 => ?_)
        · refine wp_aload_n dX12_right_46 rfl rfl ?_
          refine wp_iload_n dX12_right_47 rfl rfl ?_
          refine wp_iconst (v := (-1)) dX12_right_48 (by decide +kernel) ?_
          refine wp_cV2 1 21 [some _, some _, some _, none] dX12_right_49 tX12_laysRow rfl (by decide) nX12_laysRow vX12_laysRow lX12_344 ⟨by decide, by decide⟩ (Nat.le_of_ble_eq_true rfl) (mO hc1.1) (Nat.le_of_ble_eq_true rfl) rfl ?_
          refine pX12_laysRow' hc1 hd nx1 (by omega) (fun hh1 f1 rx1 => ?_)
          intro _ _
          have mc1 := hc1.fr f1 (by decide) (by decide) (by decide) (by decide) (by decide)
          have nx1 := nx1.fr f1 (by decide) (by decide)
          refine wp_aload_n dX12_right_52 rfl rfl ?_
          refine wp_iload_n dX12_right_53 rfl rfl ?_
          refine wp_aload_n dX12_right_54 rfl rfl ?_
          refine wp_iload_n dX12_right_55 rfl rfl ?_
          refine wp_iload_n dX12_right_56 rfl rfl ?_
          refine wp_cV2 2 44 [some _, some _, some _] dX12_right_57 tX12_regionFrom rfl (by decide) nX12_regionFrom vX12_regionFrom lX12_347 ⟨by decide, by decide⟩ (Nat.le_of_ble_eq_true rfl) (mO mc1.1) (Nat.le_of_ble_eq_true rfl) rfl ?_
          refine pX12_regionFrom mc1 hd hf (by omega) ?_
          intro _ _
          refine wp_aload_n dX12_right_60 rfl rfl ?_
          refine wp_iload_n dX12_right_61 rfl rfl ?_
          refine wp_iload_n dX12_right_62 rfl rfl ?_
          refine wp_cV2 2 44 [some _, some _, some _] dX12_right_63 tX12_regionTo rfl (by decide) nX12_regionTo vX12_regionTo lX12_350 ⟨by decide, by decide⟩ (Nat.le_of_ble_eq_true rfl) (mO mc1.1) (Nat.le_of_ble_eq_true rfl) rfl ?_
          refine pX12_regionTo mc1 hd hf (by omega) ?_
          intro _ _
          refine wp_cV3 5 127 [some _, some _, some _, some _, none] dX12_right_66 tX12_cutsBy rfl (by decide) nX12_cutsBy vX12_cutsBy lX12_478 ⟨by decide, by decide⟩ (Nat.le_of_ble_eq_true rfl) (mO mc1.1) (Nat.le_of_ble_eq_true rfl) rfl ?_
          refine pX12_cutsBy mc1 hd hf (by omega) rx1 ⟨hg.1, by rw [rowL_m1 (rT r p) (by have := hg.2.2; omega), List.length_range]; exact hg.2.1⟩ (fun hh2 f2 k2 b2 => ?_)
          intro _ _
          have mc2 := mc1.fr f2 (by decide) (by decide) (by decide) (by decide) (by decide)
          have nx2 := nx1.fr f2 (by decide) (by decide)
          have rx2 := rx1.fr f2 (by decide) (by decide)
          refine wp_iload_n dX12_right_69 rfl rfl ?_
          refine wp_aload_n dX12_right_70 rfl rfl ?_
          refine wp_getIV dX12_right_71 lX12_337 rfl (mO mc2.1) k2.1 ?_
          refine wp_if_leN dX12_right_74 rfl (by have := k2.2.1; omega) (fun c3 => ?_) (fun c3 => ?_)
          · refine wp_iconst (v := (nI 0)) dX12_right_90 (by decide +kernel) ?_
            refine wp_cS1 0 0 [some _] dX12_right_91 tX12_truth sX12_truth lX12_320 ⟨by decide, by decide⟩ (Nat.le_of_ble_eq_true rfl) (Nat.le_of_ble_eq_true rfl) rfl ?_
            refine pX12_truth0 ?_
            intro _ _
            refine wp_iadd dX12_right_94 ?_
            refine wp_istore_n (ls1 := [_, _, some _, _]) dX12_right_95 rfl (by decide) rfl ?_
            refine wp_iinc1 (ls1 := [_, _, _, some _]) dX12_right_96 rfl (by decide) rfl ?_
            refine wp_goto dX12_right_99 ?_
            rw [nI_add, ← cntB_s0 (P := rgtB r pa my f) (decide_eq_false (fun z9 => by have h9 := congrArg List.length z9.2; rw [show (mkL r f p).length = rM r f p from (by unfold mkL; rw [List.length_map, List.length_range])] at h9; omega))]
            exact ih (p + 1) _ (by omega) mc2 nx2 (((hf1.up (by decide) (by decide)).tr (f1.up (by decide) (by decide))).tr (f2.up (by decide) (by decide))) (by omega)
          · refine wp_aload_n dX12_right_77 rfl rfl ?_
            refine wp_iload_n dX12_right_78 rfl rfl ?_
            refine wp_iload_n dX12_right_79 rfl rfl ?_
            refine wp_cV2 2 44 [some _, some _, some _, none] dX12_right_80 tX12_isAsMarked rfl (by decide) nX12_isAsMarked vX12_isAsMarked lX12_357 ⟨by decide, by decide⟩ (Nat.le_of_ble_eq_true rfl) (mO mc2.1) (Nat.le_of_ble_eq_true rfl) rfl ?_
            refine pX12_isAsMarked mc2 hd hf (by omega) k2 (fun m3 => ?_) (fun m3 => ?_)
            · intro _ _
              refine wp_if_eq dX12_right_83 (fun q => absurd q (by decide +kernel)) (fun _ => ?_)
              refine wp_iconst (v := (nI 1)) dX12_right_86 (by decide +kernel) ?_
              refine wp_goto dX12_right_87 ?_
              refine wp_cS1 0 0 [some _] dX12_right_91 tX12_truth sX12_truth lX12_320 ⟨by decide, by decide⟩ (Nat.le_of_ble_eq_true rfl) (Nat.le_of_ble_eq_true rfl) rfl ?_
              refine pX12_truth1 ?_
              intro _ _
              refine wp_iadd dX12_right_94 ?_
              refine wp_istore_n (ls1 := [_, _, some _, _]) dX12_right_95 rfl (by decide) rfl ?_
              refine wp_iinc1 (ls1 := [_, _, _, some _]) dX12_right_96 rfl (by decide) rfl ?_
              refine wp_goto dX12_right_99 ?_
              rw [nI_add, ← cntB_s1 (P := rgtB r pa my f) (decide_eq_true ⟨by omega, m3⟩)]
              exact ih (p + 1) _ (by omega) mc2 nx2 (((hf1.up (by decide) (by decide)).tr (f1.up (by decide) (by decide))).tr (f2.up (by decide) (by decide))) (by omega)
            · intro _ _
              refine wp_if_eq dX12_right_83 (fun _ => ?_) (fun q => absurd q (by decide +kernel))
              refine wp_iconst (v := (nI 0)) dX12_right_90 (by decide +kernel) ?_
              refine wp_cS1 0 0 [some _] dX12_right_91 tX12_truth sX12_truth lX12_320 ⟨by decide, by decide⟩ (Nat.le_of_ble_eq_true rfl) (Nat.le_of_ble_eq_true rfl) rfl ?_
              refine pX12_truth0 ?_
              intro _ _
              refine wp_iadd dX12_right_94 ?_
              refine wp_istore_n (ls1 := [_, _, some _, _]) dX12_right_95 rfl (by decide) rfl ?_
              refine wp_iinc1 (ls1 := [_, _, _, some _]) dX12_right_96 rfl (by decide) rfl ?_
              refine wp_goto dX12_right_99 ?_
              rw [nI_add, ← cntB_s0 (P := rgtB r pa my f) (decide_eq_false (fun z9 => m3 z9.2))]
              exact ih (p + 1) _ (by omega) mc2 nx2 (((hf1.up (by decide) (by decide)).tr (f1.up (by decide) (by decide))).tr (f2.up (by decide) (by decide))) (by omega)
        · refine wp_goto dX12_right_43 ?_
          refine wp_iinc1 (ls1 := [_, _, _, some _]) dX12_right_96 rfl (by decide) rfl ?_
          refine wp_goto dX12_right_99 ?_
          rw [← (cntB_s0 (P := rgtB r pa my f) (k := p) (decide_eq_false (fun z9 => by omega))).trans (Nat.add_zero _)]
          exact ih (p + 1) _ (by omega) hc1 nx1 (hf1.up (by decide) (by decide)) (by omega)
  exact hloop (rP r + 1) 0 h (by omega) hc nx mFr.rf (by omega)
set_option maxRecDepth 20000 in
theorem pX12_right {h : mH} {Q : Option Value → mH → Prop} {r : Nat → Int64} {F : Nat} {pa my : Nat → Int32} {x : Int32} (hc : mC h r F pa my) (hd : sOK r F pa my) (hq : ∀ {v} h', mFr pwS h h' → spRight r F pa my x = v → Q (some (.int v)) h') : Wp mX12_right 6 151 0 [some (.ref 153), some (.int x), none, none] [] h Q := by
  have hF4 := hd.f4
  have hP6 := hd.w.1.2
  refine wp_aload_n dX12_right_0 rfl rfl ?_
  refine wp_iload_n dX12_right_1 rfl rfl ?_
  refine wp_cV1 1 22 [some _, some _] dX12_right_2 tX12_isField rfl (by decide) nX12_isField vX12_isField lX12_299 ⟨by decide, by decide⟩ (Nat.le_of_ble_eq_true rfl) (mO hc.1) (Nat.le_of_ble_eq_true rfl) rfl ?_
  refine pX12_isField' hc hd (fun j1 hj1 ej1 => ?_) (fun nj1 => ?_)
  · subst ej1
    have xs1 := ix_nI hj1 (by omega)
    intro _ _
    refine wp_if_eq dX12_right_5 (fun q => absurd q (by decide +kernel)) (fun _ => ?_)
    refine wp_aload_n dX12_right_8 rfl rfl ?_
    refine wp_iload_n dX12_right_9 rfl rfl ?_
    refine wp_cV1 1 20 [some _, some _] dX12_right_10 tX12_isLearnt rfl (by decide) nX12_isLearnt vX12_isLearnt lX12_466 ⟨by decide, by decide⟩ (Nat.le_of_ble_eq_true rfl) (mO hc.1) (Nat.le_of_ble_eq_true rfl) rfl ?_
    refine pX12_isLearnt' hc hd (by omega) (fun l2 => ?_) (fun l2 => ?_)
    · intro _ _
      refine wp_if_ne dX12_right_13 (fun _ => ?_) (fun q => absurd q (by decide +kernel))
      refine wp_aload_n dX12_right_18 rfl rfl ?_
      refine wp_cV0 3 64 [some _, none, none, none, none] dX12_right_19 tX12_laysNumbers rfl (by decide) nX12_laysNumbers vX12_laysNumbers lX12_289 ⟨by decide, by decide⟩ (Nat.le_of_ble_eq_true rfl) (mO hc.1) (Nat.le_of_ble_eq_true rfl) rfl ?_
      refine pX12_laysNumbers' hc hd (fun hh3 f3 nx3 => ?_)
      intro _ _
      have mc3 := hc.fr f3 (by decide) (by decide) (by decide) (by decide) (by decide)
      refine wp_iconst (v := (nI 0)) dX12_right_22 (by decide +kernel) ?_
      refine wp_istore_n (ls1 := [_, _, some _, _]) dX12_right_23 rfl (by decide) rfl ?_
      refine wp_iconst (v := (nI 0)) dX12_right_24 (by decide +kernel) ?_
      refine wp_istore_n (ls1 := [_, _, _, some _]) dX12_right_25 rfl (by decide) rfl ?_
      refine right_loop mc3 hd nx3 (by omega) (fun hh f9 => hq _ ((f3.up (by decide) (by decide)).tr (f9.up (by decide) (by decide))) ?_)
      unfold spRight
      simp only [xs1]
      rw [if_pos l2]
    · intro _ _
      refine wp_if_ne dX12_right_13 (fun q => absurd q (by decide +kernel)) (fun _ => ?_)
      refine wp_iconst (v := (-1)) dX12_right_16 (by decide +kernel) ?_
      refine wp_ireturn dX12_right_17 rfl ?_
      refine hq _ mFr.rf ?_
      unfold spRight
      first | (simp only [*]; done) | (simp only [xs1]; rw [if_neg (by rw [l2]; decide)])
  · have xn1 := ix_none (by omega) nj1
    intro _ _
    refine wp_if_eq dX12_right_5 (fun _ => ?_) (fun q => absurd q (by decide +kernel))
    refine wp_iconst (v := (-1)) dX12_right_16 (by decide +kernel) ?_
    refine wp_ireturn dX12_right_17 rfl ?_
    refine hq _ mFr.rf ?_
    unfold spRight
    first | (simp only [*]; done) | (simp only [xs1]; rw [if_neg (by rw [l2]; decide)])
