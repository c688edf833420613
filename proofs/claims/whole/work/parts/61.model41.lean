/-! ===== drift ===== -/
def mfK (r : Nat → Int64) (f : Nat) (W : Nat → Int64) (a : Nat) : Nat → Bool
  | 0 => false
  | k + 1 => mfK r f W a k || decide (lrS r f (4 + k) ≠ 3 ∧ lrS r f (4 + k) ≠ kd (W (a + k)))
/-- what is wrong with a part: 2 to 5, 6 nothing -/
def mf1 (r : Nat → Int64) (f : Nat) (W : Nat → Int64) (q : Nat × Nat) : Nat := if q.2 - q.1 < lrS r f 0 ∨ lrS r f 1 < q.2 - q.1 then 2 else if (lrS r f 2).testBit (kd (W q.1)) = false then 3 else if (lrS r f 3).testBit (kd (W (q.2 - 1))) = false then 4 else if mfK r f W q.1 (min (q.2 - q.1) (lrS r f 0)) = true then 5 else 6
def dfM (r : Nat → Int64) (f : Nat) (W : Nat → Int64) (l : List (Nat × Nat)) : Nat → Nat
  | 0 => 6
  | i + 1 => min (dfM r f W l i) (mf1 r f W (l.getD i (0, 0)))
theorem dfM_s {r : Nat → Int64} {f i : Nat} {W : Nat → Int64} {l : List (Nat × Nat)} : dfM r f W l (i + 1) = min (dfM r f W l i) (mf1 r f W (l.getD i (0, 0))) := rfl
theorem dfM_le {r : Nat → Int64} {f : Nat} {W : Nat → Int64} {l : List (Nat × Nat)} : ∀ i, dfM r f W l i ≤ 6
  | 0 => Nat.le_refl _
  | i + 1 => by
    have := dfM_le (r := r) (f := f) (W := W) (l := l) i
    rw [dfM_s]
    omega
def dfR (r : Nat → Int64) (f : Nat) (W : Nat → Int64) (l : List (Nat × Nat)) : Nat := if dfM r f W l l.length = 6 then 0 else dfM r f W l l.length
def dfV (r : Nat → Int64) (pa my : Nat → Int32) (p f : Nat) : Nat := match cuX r pa my p (-1) f with
  | some c => dfR r f (rwW r p (-1)) c.2
  | none => 1
set_option maxRecDepth 20000 in
theorem drift_k {h : mH} {Q : Option Value → mH → Prop} {r : Nat → Int64} {F : Nat} {pa my : Nat → Int32} {f p : Nat} {but : Int32} {l : List (Nat × Nat)} {i D : Nat} (hc : mC h r F pa my) (hd : sOK r F pa my) (hf : f < F) (hl1 : r (655 + 70 * f) = 1) (hp : p < rP r) (rx : rowX r h p but) (hk : cutsOK h l) (hin : ∀ i, i < l.length → (l.getD i (0, 0)).1 < (l.getD i (0, 0)).2 ∧ (l.getD i (0, 0)).2 ≤ (rowL but (rT r p)).length) (hi : i < l.length) (hD : D ≤ 6) (K9 : ∀ k, Wp mX12_driftOfCuts 2 42 188 [some (.ref 153), some (.int (nI f)), some (.int (nI (if mfK r f (rwW r p but) (l.getD i (0, 0)).1 (min ((l.getD i (0, 0)).2 - (l.getD i (0, 0)).1) (lrS r f 0)) = true then min D 5 else D))), some (.int (nI i)), some (.int (nI ((l.getD i (0, 0)).2 - (l.getD i (0, 0)).1))), some (.int (nI k))] [] h Q) : Wp mX12_driftOfCuts 2 42 119 [some (.ref 153), some (.int (nI f)), some (.int (nI D)), some (.int (nI i)), some (.int (nI ((l.getD i (0, 0)).2 - (l.getD i (0, 0)).1))), some (.int (nI 0))] [] h Q := by
  have hF4 := hd.f4
  have hP6 := hd.w.1.2
  have hT40 := (hd.w.2.1 p (by omega)).2
  have hlen : (rowL but (rT r p)).length ≤ rT r p := rowL_le
  have hl9 := hd.l1 f (by omega) hl1
  have hls : ∀ k, lrS r f (4 + k) ≤ 40 ∨ 40 ≤ k := fun k => by
    rcases Nat.lt_or_ge k 40 with z | z
    · exact Or.inl (hd.ls f (4 + k) (by omega) (by omega)).2
    · exact Or.inr z
  have hs0 := (hd.ls f 0 (by omega) (by omega)).2
  have hs1 := (hd.ls f 1 (by omega) (by omega)).2
  have hk8 := hk.2.1
  have hii := hin i hi
  have hloop : ∀  (t9 : Nat) (k : Nat), (k ≤ min ((l.getD i (0, 0)).2 - (l.getD i (0, 0)).1) (lrS r f 0)) → (min ((l.getD i (0, 0)).2 - (l.getD i (0, 0)).1) (lrS r f 0) < k + t9) → Wp mX12_driftOfCuts 2 42 119 [some (.ref 153), some (.int (nI f)), some (.int (nI (if mfK r f (rwW r p but) (l.getD i (0, 0)).1 k = true then min D 5 else D))), some (.int (nI i)), some (.int (nI ((l.getD i (0, 0)).2 - (l.getD i (0, 0)).1))), some (.int (nI k))] [] h Q := by
    intro t9
    induction t9 with
    | zero => intros; omega
    | succ t9 ih =>
      intro k hkm hmz
      refine wp_iload dX12_driftOfCuts_119 rfl ?_
      refine wp_iload dX12_driftOfCuts_121 rfl ?_
      refine wp_icmp_geN dX12_driftOfCuts_123 rfl rfl ⟨by omega, by omega⟩ (fun c1 => ?_) (fun c1 => ?_)
      · have e9 : k = min ((l.getD i (0, 0)).2 - (l.getD i (0, 0)).1) (lrS r f 0) := by omega
        subst e9
        exact K9 _
      · refine wp_iload dX12_driftOfCuts_126 rfl ?_
        refine wp_aload_n dX12_driftOfCuts_128 rfl rfl ?_
        refine wp_iload_n dX12_driftOfCuts_129 rfl rfl ?_
        refine wp_iconst (v := (nI 0)) dX12_driftOfCuts_130 (by decide +kernel) ?_
        refine wp_cV2 1 20 [some _, some _, some _] dX12_driftOfCuts_131 tX12_shapeOf rfl (by decide) nX12_shapeOf vX12_shapeOf lX12_469 ⟨by decide, by decide⟩ (Nat.le_of_ble_eq_true rfl) (mO hc.1) (Nat.le_of_ble_eq_true rfl) rfl ?_
        refine pX12_shapeOf' hc hd (by omega) (by omega) ?_
        intro _ _
        refine wp_icmp_geN dX12_driftOfCuts_134 rfl rfl ⟨by omega, by omega⟩ (fun c2 => ?_) (fun c2 => ?_)
        · have e9 : k = min ((l.getD i (0, 0)).2 - (l.getD i (0, 0)).1) (lrS r f 0) := by omega
          subst e9
          exact K9 _
        · refine wp_aload_n dX12_driftOfCuts_137 rfl rfl ?_
          refine wp_iload_n dX12_driftOfCuts_138 rfl rfl ?_
          refine wp_iconst (v := (nI 4)) dX12_driftOfCuts_139 (by decide +kernel) ?_
          refine wp_iload dX12_driftOfCuts_140 rfl ?_
          refine wp_iadd dX12_driftOfCuts_142 ?_
          refine wp_cV2 1 20 [some _, some _, some _] dX12_driftOfCuts_143 tX12_shapeOf rfl (by decide) nX12_shapeOf vX12_shapeOf lX12_469 ⟨by decide, by decide⟩ (Nat.le_of_ble_eq_true rfl) (mO hc.1) (Nat.le_of_ble_eq_true rfl) rfl ?_
          rw [nI_add]
          refine pX12_shapeOf' hc hd (by omega) (by omega) ?_
          intro _ _
          refine wp_iconst (v := (nI 3)) dX12_driftOfCuts_146 (by decide +kernel) ?_
          refine wp_icmp_eqN dX12_driftOfCuts_147 rfl rfl ⟨by have := hls k; omega, by have := kd_lt ((rwW r p but) ((l.getD i (0, 0)).1 + k)); omega⟩ (fun c3 => ?_) (fun c3 => ?_)
          · refine wp_iinc1 (ls1 := [_, _, _, _, _, some _]) dX12_driftOfCuts_182 rfl (by decide) rfl ?_
            refine wp_goto dX12_driftOfCuts_185 ?_
            have em : mfK r f (rwW r p but) (l.getD i (0, 0)).1 (k + 1) = mfK r f (rwW r p but) (l.getD i (0, 0)).1 k := by
              show (_ || _) = _
              rw [decide_eq_false (show ¬ (lrS r f (4 + k) ≠ 3 ∧ lrS r f (4 + k) ≠ kd ((rwW r p but) ((l.getD i (0, 0)).1 + k))) from fun z9 => by omega), Bool.or_false]
            rw [← em]
            exact ih (k + 1) (by omega) (by omega)
          · refine wp_aload_n dX12_driftOfCuts_150 rfl rfl ?_
            refine wp_iload_n dX12_driftOfCuts_151 rfl rfl ?_
            refine wp_iconst (v := (nI 4)) dX12_driftOfCuts_152 (by decide +kernel) ?_
            refine wp_iload dX12_driftOfCuts_153 rfl ?_
            refine wp_iadd dX12_driftOfCuts_155 ?_
            refine wp_cV2 1 20 [some _, some _, some _] dX12_driftOfCuts_156 tX12_shapeOf rfl (by decide) nX12_shapeOf vX12_shapeOf lX12_469 ⟨by decide, by decide⟩ (Nat.le_of_ble_eq_true rfl) (mO hc.1) (Nat.le_of_ble_eq_true rfl) rfl ?_
            rw [nI_add]
            refine pX12_shapeOf' hc hd (by omega) (by omega) ?_
            intro _ _
            refine wp_aload_n dX12_driftOfCuts_159 rfl rfl ?_
            refine wp_getR dX12_driftOfCuts_160 lX12_61 rfl (mO hc.1) (mR_rowKind hc.1) ?_
            refine wp_aload_n dX12_driftOfCuts_163 rfl rfl ?_
            refine wp_getR dX12_driftOfCuts_164 lX12_64 rfl (mO hc.1) (mR_cutFrom hc.1) ?_
            refine wp_iload_n dX12_driftOfCuts_167 rfl rfl ?_
            refine wp_ialdV dX12_driftOfCuts_168 (mA_cutFrom hc.1) rfl ⟨by omega, by decide⟩ (hk.2.2 i hi).1 ?_
            refine wp_iload dX12_driftOfCuts_169 rfl ?_
            refine wp_iadd dX12_driftOfCuts_171 ?_
            refine wp_ialdV dX12_driftOfCuts_172 (mA_rowKind hc.1) (isN_add rfl rfl) ⟨by omega, by decide⟩ (rx.2 ((l.getD i (0, 0)).1 + k) (by omega)).2 ?_
            refine wp_icmp_eqN dX12_driftOfCuts_173 rfl rfl ⟨by have := hls k; omega, by have := kd_lt ((rwW r p but) ((l.getD i (0, 0)).1 + k)); omega⟩ (fun c4 => ?_) (fun c4 => ?_)
            · refine wp_iinc1 (ls1 := [_, _, _, _, _, some _]) dX12_driftOfCuts_182 rfl (by decide) rfl ?_
              refine wp_goto dX12_driftOfCuts_185 ?_
              have em : mfK r f (rwW r p but) (l.getD i (0, 0)).1 (k + 1) = mfK r f (rwW r p but) (l.getD i (0, 0)).1 k := by
                show (_ || _) = _
                rw [decide_eq_false (show ¬ (lrS r f (4 + k) ≠ 3 ∧ lrS r f (4 + k) ≠ kd ((rwW r p but) ((l.getD i (0, 0)).1 + k))) from fun z9 => by omega), Bool.or_false]
              rw [← em]
              exact ih (k + 1) (by omega) (by omega)
            · refine wp_iload_n dX12_driftOfCuts_176 rfl rfl ?_
              refine wp_iconst (v := (nI 5)) dX12_driftOfCuts_177 (by decide +kernel) ?_
              refine wp_cS2 0 0 [some _, some _] dX12_driftOfCuts_178 tX12_lesser sX12_lesser lX12_448 ⟨by decide, by decide⟩ (Nat.le_of_ble_eq_true rfl) (Nat.le_of_ble_eq_true rfl) rfl ?_
              refine pX12_lesserN (by split <;> omega) (by omega) ?_
              intro _ _
              refine wp_istore_n (ls1 := [_, _, some _, _, _, _]) dX12_driftOfCuts_181 rfl (by decide) rfl ?_
              refine wp_iinc1 (ls1 := [_, _, _, _, _, some _]) dX12_driftOfCuts_182 rfl (by decide) rfl ?_
              refine wp_goto dX12_driftOfCuts_185 ?_
              have em : mfK r f (rwW r p but) (l.getD i (0, 0)).1 (k + 1) = true := by
                show (_ || _) = true
                rw [decide_eq_true (show lrS r f (4 + k) ≠ 3 ∧ lrS r f (4 + k) ≠ kd ((rwW r p but) ((l.getD i (0, 0)).1 + k)) from ⟨by assumption, by assumption⟩), Bool.or_true]
              rw [show min (if mfK r f (rwW r p but) (l.getD i (0, 0)).1 k = true then min D 5 else D) 5 = (if mfK r f (rwW r p but) (l.getD i (0, 0)).1 (k + 1) = true then min D 5 else D) from (by rw [if_pos em]; split <;> omega)]
              exact ih (k + 1) (by omega) (by omega)
  exact hloop (min ((l.getD i (0, 0)).2 - (l.getD i (0, 0)).1) (lrS r f 0) + 1) 0 (by omega) (by omega)
set_option maxRecDepth 20000 in
theorem pX12_driftOfCuts {h : mH} {Q : Option Value → mH → Prop} {r : Nat → Int64} {F : Nat} {pa my : Nat → Int32} {f p : Nat} {but : Int32} {l : List (Nat × Nat)} (hc : mC h r F pa my) (hd : sOK r F pa my) (hf : f < F) (hl1 : r (655 + 70 * f) = 1) (hp : p < rP r) (rx : rowX r h p but) (hk : cutsOK h l) (hin : ∀ i, i < l.length → (l.getD i (0, 0)).1 < (l.getD i (0, 0)).2 ∧ (l.getD i (0, 0)).2 ≤ (rowL but (rT r p)).length) (hq : Q (some (.int (nI (dfR r f (rwW r p but) l)))) h) : Wp mX12_driftOfCuts 2 42 0 [some (.ref 153), some (.int (nI f)), none, none, none, none] [] h Q := by
  have hF4 := hd.f4
  have hP6 := hd.w.1.2
  have hT40 := (hd.w.2.1 p (by omega)).2
  have hlen : (rowL but (rT r p)).length ≤ rT r p := rowL_le
  have hl9 := hd.l1 f (by omega) hl1
  have hls : ∀ k, lrS r f (4 + k) ≤ 40 ∨ 40 ≤ k := fun k => by
    rcases Nat.lt_or_ge k 40 with z | z
    · exact Or.inl (hd.ls f (4 + k) (by omega) (by omega)).2
    · exact Or.inr z
  have hs0 := (hd.ls f 0 (by omega) (by omega)).2
  have hs1 := (hd.ls f 1 (by omega) (by omega)).2
  have hk8 := hk.2.1
  have hloop : ∀  (t9 : Nat) (i : Nat) (x4 : Option Value) (x5 : Option Value), (i ≤ l.length) → (l.length < i + t9) → Wp mX12_driftOfCuts 2 42 5 [some (.ref 153), some (.int (nI f)), some (.int (nI (dfM r f (rwW r p but) l i))), some (.int (nI i)), x4, x5] [] h Q := by
    intro t9
    induction t9 with
    | zero => intros; omega
    | succ t9 ih =>
      intro i x4 x5 hil hmz
      refine wp_iload_n dX12_driftOfCuts_5 rfl rfl ?_
      refine wp_aload_n dX12_driftOfCuts_6 rfl rfl ?_
      refine wp_getIV dX12_driftOfCuts_7 lX12_337 rfl (mO hc.1) hk.1 ?_
      refine wp_icmp_geN dX12_driftOfCuts_10 rfl rfl ⟨by omega, by omega⟩ (fun c1 => ?_) (fun c1 => ?_)
      · have hdm := dfM_le (r := r) (f := f) (W := (rwW r p but)) (l := l) i
        refine wp_iload_n dX12_driftOfCuts_194 rfl rfl ?_
        refine wp_bipush (v := (nI 6)) dX12_driftOfCuts_195 (by decide +kernel) ?_
        refine wp_icmp_neN dX12_driftOfCuts_197 rfl rfl ⟨by omega, by omega⟩ (fun c2 => ?_) (fun c2 => ?_)
        · refine wp_iload_n dX12_driftOfCuts_204 rfl rfl ?_
          refine wp_ireturn dX12_driftOfCuts_205 rfl ?_
          have e9 : i = l.length := by omega
          subst e9
          unfold dfR at hq
          rw [if_neg (by assumption)] at hq
          exact hq
        · refine wp_iconst (v := (nI 0)) dX12_driftOfCuts_200 (by decide +kernel) ?_
          refine wp_goto dX12_driftOfCuts_201 ?_
          refine wp_ireturn dX12_driftOfCuts_205 rfl ?_
          have e9 : i = l.length := by omega
          subst e9
          unfold dfR at hq
          rw [if_pos (by assumption)] at hq
          exact hq
      · have hi : i < l.length := by omega
        have hii := hin i hi
        have hdm := dfM_le (r := r) (f := f) (W := (rwW r p but)) (l := l) i
        refine wp_aload_n dX12_driftOfCuts_13 rfl rfl ?_
        refine wp_getR dX12_driftOfCuts_14 lX12_67 rfl (mO hc.1) (mR_cutTo hc.1) ?_
        refine wp_iload_n dX12_driftOfCuts_17 rfl rfl ?_
        refine wp_ialdV dX12_driftOfCuts_18 (mA_cutTo hc.1) rfl ⟨by omega, by decide⟩ (hk.2.2 i hi).2.1 ?_
        refine wp_aload_n dX12_driftOfCuts_19 rfl rfl ?_
        refine wp_getR dX12_driftOfCuts_20 lX12_64 rfl (mO hc.1) (mR_cutFrom hc.1) ?_
        refine wp_iload_n dX12_driftOfCuts_23 rfl rfl ?_
        refine wp_ialdV dX12_driftOfCuts_24 (mA_cutFrom hc.1) rfl ⟨by omega, by decide⟩ (hk.2.2 i hi).1 ?_
        refine wp_isub dX12_driftOfCuts_25 ?_
        rw [pk_sub (by omega)]
        refine wp_istore (ls1 := [_, _, _, _, some _, _]) dX12_driftOfCuts_26 (by decide) rfl ?_
        refine wp_iload dX12_driftOfCuts_28 rfl ?_
        refine wp_aload_n dX12_driftOfCuts_30 rfl rfl ?_
        refine wp_iload_n dX12_driftOfCuts_31 rfl rfl ?_
        refine wp_iconst (v := (nI 0)) dX12_driftOfCuts_32 (by decide +kernel) ?_
        refine wp_cV2 1 20 [some _, some _, some _] dX12_driftOfCuts_33 tX12_shapeOf rfl (by decide) nX12_shapeOf vX12_shapeOf lX12_469 ⟨by decide, by decide⟩ (Nat.le_of_ble_eq_true rfl) (mO hc.1) (Nat.le_of_ble_eq_true rfl) rfl ?_
        refine pX12_shapeOf' hc hd (by omega) (by omega) ?_
        intro _ _
        refine wp_icmp_ltN dX12_driftOfCuts_36 rfl rfl ⟨by omega, by omega⟩ (fun c3 => ?_) (fun c3 => ?_)
        · refine wp_iload_n dX12_driftOfCuts_50 rfl rfl ?_
          refine wp_iconst (v := (nI 2)) dX12_driftOfCuts_51 (by decide +kernel) ?_
          refine wp_cS2 0 0 [some _, some _] dX12_driftOfCuts_52 tX12_lesser sX12_lesser lX12_448 ⟨by decide, by decide⟩ (Nat.le_of_ble_eq_true rfl) (Nat.le_of_ble_eq_true rfl) rfl ?_
          refine pX12_lesserN (by omega) (by omega) ?_
          intro _ _
          refine wp_istore_n (ls1 := [_, _, some _, _, _, _]) dX12_driftOfCuts_55 rfl (by decide) rfl ?_
          refine wp_aload_n dX12_driftOfCuts_56 rfl rfl ?_
          refine wp_iload_n dX12_driftOfCuts_57 rfl rfl ?_
          refine wp_iconst (v := (nI 2)) dX12_driftOfCuts_58 (by decide +kernel) ?_
          refine wp_cV2 1 20 [some _, some _, some _] dX12_driftOfCuts_59 tX12_shapeOf rfl (by decide) nX12_shapeOf vX12_shapeOf lX12_469 ⟨by decide, by decide⟩ (Nat.le_of_ble_eq_true rfl) (mO hc.1) (Nat.le_of_ble_eq_true rfl) rfl ?_
          refine pX12_shapeOf' hc hd (by omega) (by omega) ?_
          intro _ _
          refine wp_aload_n dX12_driftOfCuts_62 rfl rfl ?_
          refine wp_getR dX12_driftOfCuts_63 lX12_61 rfl (mO hc.1) (mR_rowKind hc.1) ?_
          refine wp_aload_n dX12_driftOfCuts_66 rfl rfl ?_
          refine wp_getR dX12_driftOfCuts_67 lX12_64 rfl (mO hc.1) (mR_cutFrom hc.1) ?_
          refine wp_iload_n dX12_driftOfCuts_70 rfl rfl ?_
          refine wp_ialdV dX12_driftOfCuts_71 (mA_cutFrom hc.1) rfl ⟨by omega, by decide⟩ (hk.2.2 i hi).1 ?_
          refine wp_ialdV dX12_driftOfCuts_72 (mA_rowKind hc.1) rfl ⟨by omega, by decide⟩ (rx.2 ((l.getD i (0, 0)).1) (by omega)).2 ?_
          refine wp_cS2 0 0 [some _, some _] dX12_driftOfCuts_73 tX12_isOf sX12_isOf lX12_394 ⟨by decide, by decide⟩ (Nat.le_of_ble_eq_true rfl) (Nat.le_of_ble_eq_true rfl) rfl ?_
          refine pX12_isOf (by have := hl9; omega) (by have := kd_lt ((rwW r p but) (l.getD i (0, 0)).1); omega) (fun o3 => ?_) (fun o3 => ?_)
          · intro _ _
            refine wp_if_ne dX12_driftOfCuts_76 (fun _ => ?_) (fun q => absurd q (by decide +kernel))
            refine wp_aload_n dX12_driftOfCuts_85 rfl rfl ?_
            refine wp_iload_n dX12_driftOfCuts_86 rfl rfl ?_
            refine wp_iconst (v := (nI 3)) dX12_driftOfCuts_87 (by decide +kernel) ?_
            refine wp_cV2 1 20 [some _, some _, some _] dX12_driftOfCuts_88 tX12_shapeOf rfl (by decide) nX12_shapeOf vX12_shapeOf lX12_469 ⟨by decide, by decide⟩ (Nat.le_of_ble_eq_true rfl) (mO hc.1) (Nat.le_of_ble_eq_true rfl) rfl ?_
            refine pX12_shapeOf' hc hd (by omega) (by omega) ?_
            intro _ _
            refine wp_aload_n dX12_driftOfCuts_91 rfl rfl ?_
            refine wp_getR dX12_driftOfCuts_92 lX12_61 rfl (mO hc.1) (mR_rowKind hc.1) ?_
            refine wp_aload_n dX12_driftOfCuts_95 rfl rfl ?_
            refine wp_getR dX12_driftOfCuts_96 lX12_67 rfl (mO hc.1) (mR_cutTo hc.1) ?_
            refine wp_iload_n dX12_driftOfCuts_99 rfl rfl ?_
            refine wp_ialdV dX12_driftOfCuts_100 (mA_cutTo hc.1) rfl ⟨by omega, by decide⟩ (hk.2.2 i hi).2.1 ?_
            refine wp_iconst (v := (nI 1)) dX12_driftOfCuts_101 (by decide +kernel) ?_
            refine wp_isub dX12_driftOfCuts_102 ?_
            refine wp_ialdV dX12_driftOfCuts_103 (mA_rowKind hc.1) (isN_sub rfl rfl (by omega)) ⟨by omega, by decide⟩ (rx.2 ((l.getD i (0, 0)).2 - 1) (by omega)).2 ?_
            refine wp_cS2 0 0 [some _, some _] dX12_driftOfCuts_104 tX12_isOf sX12_isOf lX12_394 ⟨by decide, by decide⟩ (Nat.le_of_ble_eq_true rfl) (Nat.le_of_ble_eq_true rfl) rfl ?_
            refine pX12_isOf (by have := hl9; omega) (by have := kd_lt ((rwW r p but) ((l.getD i (0, 0)).2 - 1)); omega) (fun o4 => ?_) (fun o4 => ?_)
            · intro _ _
              refine wp_if_ne dX12_driftOfCuts_107 (fun _ => ?_) (fun q => absurd q (by decide +kernel))
              refine wp_iconst (v := (nI 0)) dX12_driftOfCuts_116 (by decide +kernel) ?_
              refine wp_istore (ls1 := [_, _, _, _, _, some _]) dX12_driftOfCuts_117 (by decide) rfl ?_
              refine drift_k hc hd hf hl1 hp rx hk hin hi (by omega) (fun k3 => ?_)
              refine wp_iinc1 (ls1 := [_, _, _, some _, _, _]) dX12_driftOfCuts_188 rfl (by decide) rfl ?_
              refine wp_goto dX12_driftOfCuts_191 ?_
              refine cast (congrArg (fun z => Wp mX12_driftOfCuts 2 42 5 [some (.ref 153), some (.int (nI f)), some (.int (nI z)), some (.int (nI (i + 1))), _, _] [] h Q) ?_) (ih (i + 1) _ _ (by omega) (by omega))
              rw [dfM_s]
              unfold mf1
              rw [if_pos (show (l.getD i (0, 0)).2 - (l.getD i (0, 0)).1 < lrS r f 0 ∨ lrS r f 1 < (l.getD i (0, 0)).2 - (l.getD i (0, 0)).1 by omega)]; split <;> omega
            · intro _ _
              refine wp_if_ne dX12_driftOfCuts_107 (fun q => absurd q (by decide +kernel)) (fun _ => ?_)
              refine wp_iload_n dX12_driftOfCuts_110 rfl rfl ?_
              refine wp_iconst (v := (nI 4)) dX12_driftOfCuts_111 (by decide +kernel) ?_
              refine wp_cS2 0 0 [some _, some _] dX12_driftOfCuts_112 tX12_lesser sX12_lesser lX12_448 ⟨by decide, by decide⟩ (Nat.le_of_ble_eq_true rfl) (Nat.le_of_ble_eq_true rfl) rfl ?_
              refine pX12_lesserN (by omega) (by omega) ?_
              intro _ _
              refine wp_istore_n (ls1 := [_, _, some _, _, _, _]) dX12_driftOfCuts_115 rfl (by decide) rfl ?_
              refine wp_iconst (v := (nI 0)) dX12_driftOfCuts_116 (by decide +kernel) ?_
              refine wp_istore (ls1 := [_, _, _, _, _, some _]) dX12_driftOfCuts_117 (by decide) rfl ?_
              refine drift_k hc hd hf hl1 hp rx hk hin hi (by omega) (fun k4 => ?_)
              refine wp_iinc1 (ls1 := [_, _, _, some _, _, _]) dX12_driftOfCuts_188 rfl (by decide) rfl ?_
              refine wp_goto dX12_driftOfCuts_191 ?_
              refine cast (congrArg (fun z => Wp mX12_driftOfCuts 2 42 5 [some (.ref 153), some (.int (nI f)), some (.int (nI z)), some (.int (nI (i + 1))), _, _] [] h Q) ?_) (ih (i + 1) _ _ (by omega) (by omega))
              rw [dfM_s]
              unfold mf1
              rw [if_pos (show (l.getD i (0, 0)).2 - (l.getD i (0, 0)).1 < lrS r f 0 ∨ lrS r f 1 < (l.getD i (0, 0)).2 - (l.getD i (0, 0)).1 by omega)]; split <;> omega
          · intro _ _
            refine wp_if_ne dX12_driftOfCuts_76 (fun q => absurd q (by decide +kernel)) (fun _ => ?_)
            refine wp_iload_n dX12_driftOfCuts_79 rfl rfl ?_
            refine wp_iconst (v := (nI 3)) dX12_driftOfCuts_80 (by decide +kernel) ?_
            refine wp_cS2 0 0 [some _, some _] dX12_driftOfCuts_81 tX12_lesser sX12_lesser lX12_448 ⟨by decide, by decide⟩ (Nat.le_of_ble_eq_true rfl) (Nat.le_of_ble_eq_true rfl) rfl ?_
            refine pX12_lesserN (by omega) (by omega) ?_
            intro _ _
            refine wp_istore_n (ls1 := [_, _, some _, _, _, _]) dX12_driftOfCuts_84 rfl (by decide) rfl ?_
            refine wp_aload_n dX12_driftOfCuts_85 rfl rfl ?_
            refine wp_iload_n dX12_driftOfCuts_86 rfl rfl ?_
            refine wp_iconst (v := (nI 3)) dX12_driftOfCuts_87 (by decide +kernel) ?_
            refine wp_cV2 1 20 [some _, some _, some _] dX12_driftOfCuts_88 tX12_shapeOf rfl (by decide) nX12_shapeOf vX12_shapeOf lX12_469 ⟨by decide, by decide⟩ (Nat.le_of_ble_eq_true rfl) (mO hc.1) (Nat.le_of_ble_eq_true rfl) rfl ?_
            refine pX12_shapeOf' hc hd (by omega) (by omega) ?_
            intro _ _
            refine wp_aload_n dX12_driftOfCuts_91 rfl rfl ?_
            refine wp_getR dX12_driftOfCuts_92 lX12_61 rfl (mO hc.1) (mR_rowKind hc.1) ?_
            refine wp_aload_n dX12_driftOfCuts_95 rfl rfl ?_
            refine wp_getR dX12_driftOfCuts_96 lX12_67 rfl (mO hc.1) (mR_cutTo hc.1) ?_
            refine wp_iload_n dX12_driftOfCuts_99 rfl rfl ?_
            refine wp_ialdV dX12_driftOfCuts_100 (mA_cutTo hc.1) rfl ⟨by omega, by decide⟩ (hk.2.2 i hi).2.1 ?_
            refine wp_iconst (v := (nI 1)) dX12_driftOfCuts_101 (by decide +kernel) ?_
            refine wp_isub dX12_driftOfCuts_102 ?_
            refine wp_ialdV dX12_driftOfCuts_103 (mA_rowKind hc.1) (isN_sub rfl rfl (by omega)) ⟨by omega, by decide⟩ (rx.2 ((l.getD i (0, 0)).2 - 1) (by omega)).2 ?_
            refine wp_cS2 0 0 [some _, some _] dX12_driftOfCuts_104 tX12_isOf sX12_isOf lX12_394 ⟨by decide, by decide⟩ (Nat.le_of_ble_eq_true rfl) (Nat.le_of_ble_eq_true rfl) rfl ?_
            refine pX12_isOf (by have := hl9; omega) (by have := kd_lt ((rwW r p but) ((l.getD i (0, 0)).2 - 1)); omega) (fun o4 => ?_) (fun o4 => ?_)
            · intro _ _
              refine wp_if_ne dX12_driftOfCuts_107 (fun _ => ?_) (fun q => absurd q (by decide +kernel))
              refine wp_iconst (v := (nI 0)) dX12_driftOfCuts_116 (by decide +kernel) ?_
              refine wp_istore (ls1 := [_, _, _, _, _, some _]) dX12_driftOfCuts_117 (by decide) rfl ?_
              refine drift_k hc hd hf hl1 hp rx hk hin hi (by omega) (fun k6 => ?_)
              refine wp_iinc1 (ls1 := [_, _, _, some _, _, _]) dX12_driftOfCuts_188 rfl (by decide) rfl ?_
              refine wp_goto dX12_driftOfCuts_191 ?_
              refine cast (congrArg (fun z => Wp mX12_driftOfCuts 2 42 5 [some (.ref 153), some (.int (nI f)), some (.int (nI z)), some (.int (nI (i + 1))), _, _] [] h Q) ?_) (ih (i + 1) _ _ (by omega) (by omega))
              rw [dfM_s]
              unfold mf1
              rw [if_pos (show (l.getD i (0, 0)).2 - (l.getD i (0, 0)).1 < lrS r f 0 ∨ lrS r f 1 < (l.getD i (0, 0)).2 - (l.getD i (0, 0)).1 by omega)]; split <;> omega
            · intro _ _
              refine wp_if_ne dX12_driftOfCuts_107 (fun q => absurd q (by decide +kernel)) (fun _ => ?_)
              refine wp_iload_n dX12_driftOfCuts_110 rfl rfl ?_
              refine wp_iconst (v := (nI 4)) dX12_driftOfCuts_111 (by decide +kernel) ?_
              refine wp_cS2 0 0 [some _, some _] dX12_driftOfCuts_112 tX12_lesser sX12_lesser lX12_448 ⟨by decide, by decide⟩ (Nat.le_of_ble_eq_true rfl) (Nat.le_of_ble_eq_true rfl) rfl ?_
              refine pX12_lesserN (by omega) (by omega) ?_
              intro _ _
              refine wp_istore_n (ls1 := [_, _, some _, _, _, _]) dX12_driftOfCuts_115 rfl (by decide) rfl ?_
              refine wp_iconst (v := (nI 0)) dX12_driftOfCuts_116 (by decide +kernel) ?_
              refine wp_istore (ls1 := [_, _, _, _, _, some _]) dX12_driftOfCuts_117 (by decide) rfl ?_
              refine drift_k hc hd hf hl1 hp rx hk hin hi (by omega) (fun k7 => ?_)
              refine wp_iinc1 (ls1 := [_, _, _, some _, _, _]) dX12_driftOfCuts_188 rfl (by decide) rfl ?_
              refine wp_goto dX12_driftOfCuts_191 ?_
              refine cast (congrArg (fun z => Wp mX12_driftOfCuts 2 42 5 [some (.ref 153), some (.int (nI f)), some (.int (nI z)), some (.int (nI (i + 1))), _, _] [] h Q) ?_) (ih (i + 1) _ _ (by omega) (by omega))
              rw [dfM_s]
              unfold mf1
              rw [if_pos (show (l.getD i (0, 0)).2 - (l.getD i (0, 0)).1 < lrS r f 0 ∨ lrS r f 1 < (l.getD i (0, 0)).2 - (l.getD i (0, 0)).1 by omega)]; split <;> omega
        · refine wp_iload dX12_driftOfCuts_39 rfl ?_
          refine wp_aload_n dX12_driftOfCuts_41 rfl rfl ?_
          refine wp_iload_n dX12_driftOfCuts_42 rfl rfl ?_
          refine wp_iconst (v := (nI 1)) dX12_driftOfCuts_43 (by decide +kernel) ?_
          refine wp_cV2 1 20 [some _, some _, some _] dX12_driftOfCuts_44 tX12_shapeOf rfl (by decide) nX12_shapeOf vX12_shapeOf lX12_469 ⟨by decide, by decide⟩ (Nat.le_of_ble_eq_true rfl) (mO hc.1) (Nat.le_of_ble_eq_true rfl) rfl ?_
          refine pX12_shapeOf' hc hd (by omega) (by omega) ?_
          intro _ _
          refine wp_icmp_leN dX12_driftOfCuts_47 rfl rfl ⟨by omega, by omega⟩ (fun c10 => ?_) (fun c10 => ?_)
          · refine wp_aload_n dX12_driftOfCuts_56 rfl rfl ?_
            refine wp_iload_n dX12_driftOfCuts_57 rfl rfl ?_
            refine wp_iconst (v := (nI 2)) dX12_driftOfCuts_58 (by decide +kernel) ?_
            refine wp_cV2 1 20 [some _, some _, some _] dX12_driftOfCuts_59 tX12_shapeOf rfl (by decide) nX12_shapeOf vX12_shapeOf lX12_469 ⟨by decide, by decide⟩ (Nat.le_of_ble_eq_true rfl) (mO hc.1) (Nat.le_of_ble_eq_true rfl) rfl ?_
            refine pX12_shapeOf' hc hd (by omega) (by omega) ?_
            intro _ _
            refine wp_aload_n dX12_driftOfCuts_62 rfl rfl ?_
            refine wp_getR dX12_driftOfCuts_63 lX12_61 rfl (mO hc.1) (mR_rowKind hc.1) ?_
            refine wp_aload_n dX12_driftOfCuts_66 rfl rfl ?_
            refine wp_getR dX12_driftOfCuts_67 lX12_64 rfl (mO hc.1) (mR_cutFrom hc.1) ?_
            refine wp_iload_n dX12_driftOfCuts_70 rfl rfl ?_
            refine wp_ialdV dX12_driftOfCuts_71 (mA_cutFrom hc.1) rfl ⟨by omega, by decide⟩ (hk.2.2 i hi).1 ?_
            refine wp_ialdV dX12_driftOfCuts_72 (mA_rowKind hc.1) rfl ⟨by omega, by decide⟩ (rx.2 ((l.getD i (0, 0)).1) (by omega)).2 ?_
            refine wp_cS2 0 0 [some _, some _] dX12_driftOfCuts_73 tX12_isOf sX12_isOf lX12_394 ⟨by decide, by decide⟩ (Nat.le_of_ble_eq_true rfl) (Nat.le_of_ble_eq_true rfl) rfl ?_
            refine pX12_isOf (by have := hl9; omega) (by have := kd_lt ((rwW r p but) (l.getD i (0, 0)).1); omega) (fun o3 => ?_) (fun o3 => ?_)
            · intro _ _
              refine wp_if_ne dX12_driftOfCuts_76 (fun _ => ?_) (fun q => absurd q (by decide +kernel))
              refine wp_aload_n dX12_driftOfCuts_85 rfl rfl ?_
              refine wp_iload_n dX12_driftOfCuts_86 rfl rfl ?_
              refine wp_iconst (v := (nI 3)) dX12_driftOfCuts_87 (by decide +kernel) ?_
              refine wp_cV2 1 20 [some _, some _, some _] dX12_driftOfCuts_88 tX12_shapeOf rfl (by decide) nX12_shapeOf vX12_shapeOf lX12_469 ⟨by decide, by decide⟩ (Nat.le_of_ble_eq_true rfl) (mO hc.1) (Nat.le_of_ble_eq_true rfl) rfl ?_
              refine pX12_shapeOf' hc hd (by omega) (by omega) ?_
              intro _ _
              refine wp_aload_n dX12_driftOfCuts_91 rfl rfl ?_
              refine wp_getR dX12_driftOfCuts_92 lX12_61 rfl (mO hc.1) (mR_rowKind hc.1) ?_
              refine wp_aload_n dX12_driftOfCuts_95 rfl rfl ?_
              refine wp_getR dX12_driftOfCuts_96 lX12_67 rfl (mO hc.1) (mR_cutTo hc.1) ?_
              refine wp_iload_n dX12_driftOfCuts_99 rfl rfl ?_
              refine wp_ialdV dX12_driftOfCuts_100 (mA_cutTo hc.1) rfl ⟨by omega, by decide⟩ (hk.2.2 i hi).2.1 ?_
              refine wp_iconst (v := (nI 1)) dX12_driftOfCuts_101 (by decide +kernel) ?_
              refine wp_isub dX12_driftOfCuts_102 ?_
              refine wp_ialdV dX12_driftOfCuts_103 (mA_rowKind hc.1) (isN_sub rfl rfl (by omega)) ⟨by omega, by decide⟩ (rx.2 ((l.getD i (0, 0)).2 - 1) (by omega)).2 ?_
              refine wp_cS2 0 0 [some _, some _] dX12_driftOfCuts_104 tX12_isOf sX12_isOf lX12_394 ⟨by decide, by decide⟩ (Nat.le_of_ble_eq_true rfl) (Nat.le_of_ble_eq_true rfl) rfl ?_
              refine pX12_isOf (by have := hl9; omega) (by have := kd_lt ((rwW r p but) ((l.getD i (0, 0)).2 - 1)); omega) (fun o4 => ?_) (fun o4 => ?_)
              · intro _ _
                refine wp_if_ne dX12_driftOfCuts_107 (fun _ => ?_) (fun q => absurd q (by decide +kernel))
                refine wp_iconst (v := (nI 0)) dX12_driftOfCuts_116 (by decide +kernel) ?_
                refine wp_istore (ls1 := [_, _, _, _, _, some _]) dX12_driftOfCuts_117 (by decide) rfl ?_
                refine drift_k hc hd hf hl1 hp rx hk hin hi (by omega) (fun k10 => ?_)
                refine wp_iinc1 (ls1 := [_, _, _, some _, _, _]) dX12_driftOfCuts_188 rfl (by decide) rfl ?_
                refine wp_goto dX12_driftOfCuts_191 ?_
                refine cast (congrArg (fun z => Wp mX12_driftOfCuts 2 42 5 [some (.ref 153), some (.int (nI f)), some (.int (nI z)), some (.int (nI (i + 1))), _, _] [] h Q) ?_) (ih (i + 1) _ _ (by omega) (by omega))
                rw [dfM_s]
                unfold mf1
                rw [if_neg (show ¬ ((l.getD i (0, 0)).2 - (l.getD i (0, 0)).1 < lrS r f 0 ∨ lrS r f 1 < (l.getD i (0, 0)).2 - (l.getD i (0, 0)).1) by omega)]; rw [if_neg (by rw [o3]; decide)]; rw [if_neg (by rw [o4]; decide)]; split <;> omega
              · intro _ _
                refine wp_if_ne dX12_driftOfCuts_107 (fun q => absurd q (by decide +kernel)) (fun _ => ?_)
                refine wp_iload_n dX12_driftOfCuts_110 rfl rfl ?_
                refine wp_iconst (v := (nI 4)) dX12_driftOfCuts_111 (by decide +kernel) ?_
                refine wp_cS2 0 0 [some _, some _] dX12_driftOfCuts_112 tX12_lesser sX12_lesser lX12_448 ⟨by decide, by decide⟩ (Nat.le_of_ble_eq_true rfl) (Nat.le_of_ble_eq_true rfl) rfl ?_
                refine pX12_lesserN (by omega) (by omega) ?_
                intro _ _
                refine wp_istore_n (ls1 := [_, _, some _, _, _, _]) dX12_driftOfCuts_115 rfl (by decide) rfl ?_
                refine wp_iconst (v := (nI 0)) dX12_driftOfCuts_116 (by decide +kernel) ?_
                refine wp_istore (ls1 := [_, _, _, _, _, some _]) dX12_driftOfCuts_117 (by decide) rfl ?_
                refine drift_k hc hd hf hl1 hp rx hk hin hi (by omega) (fun k11 => ?_)
                refine wp_iinc1 (ls1 := [_, _, _, some _, _, _]) dX12_driftOfCuts_188 rfl (by decide) rfl ?_
                refine wp_goto dX12_driftOfCuts_191 ?_
                refine cast (congrArg (fun z => Wp mX12_driftOfCuts 2 42 5 [some (.ref 153), some (.int (nI f)), some (.int (nI z)), some (.int (nI (i + 1))), _, _] [] h Q) ?_) (ih (i + 1) _ _ (by omega) (by omega))
                rw [dfM_s]
                unfold mf1
                rw [if_neg (show ¬ ((l.getD i (0, 0)).2 - (l.getD i (0, 0)).1 < lrS r f 0 ∨ lrS r f 1 < (l.getD i (0, 0)).2 - (l.getD i (0, 0)).1) by omega)]; rw [if_neg (by rw [o3]; decide)]; rw [if_pos o4]; split <;> omega
            · intro _ _
              refine wp_if_ne dX12_driftOfCuts_76 (fun q => absurd q (by decide +kernel)) (fun _ => ?_)
              refine wp_iload_n dX12_driftOfCuts_79 rfl rfl ?_
              refine wp_iconst (v := (nI 3)) dX12_driftOfCuts_80 (by decide +kernel) ?_
              refine wp_cS2 0 0 [some _, some _] dX12_driftOfCuts_81 tX12_lesser sX12_lesser lX12_448 ⟨by decide, by decide⟩ (Nat.le_of_ble_eq_true rfl) (Nat.le_of_ble_eq_true rfl) rfl ?_
              refine pX12_lesserN (by omega) (by omega) ?_
              intro _ _
              refine wp_istore_n (ls1 := [_, _, some _, _, _, _]) dX12_driftOfCuts_84 rfl (by decide) rfl ?_
              refine wp_aload_n dX12_driftOfCuts_85 rfl rfl ?_
              refine wp_iload_n dX12_driftOfCuts_86 rfl rfl ?_
              refine wp_iconst (v := (nI 3)) dX12_driftOfCuts_87 (by decide +kernel) ?_
              refine wp_cV2 1 20 [some _, some _, some _] dX12_driftOfCuts_88 tX12_shapeOf rfl (by decide) nX12_shapeOf vX12_shapeOf lX12_469 ⟨by decide, by decide⟩ (Nat.le_of_ble_eq_true rfl) (mO hc.1) (Nat.le_of_ble_eq_true rfl) rfl ?_
              refine pX12_shapeOf' hc hd (by omega) (by omega) ?_
              intro _ _
              refine wp_aload_n dX12_driftOfCuts_91 rfl rfl ?_
              refine wp_getR dX12_driftOfCuts_92 lX12_61 rfl (mO hc.1) (mR_rowKind hc.1) ?_
              refine wp_aload_n dX12_driftOfCuts_95 rfl rfl ?_
              refine wp_getR dX12_driftOfCuts_96 lX12_67 rfl (mO hc.1) (mR_cutTo hc.1) ?_
              refine wp_iload_n dX12_driftOfCuts_99 rfl rfl ?_
              refine wp_ialdV dX12_driftOfCuts_100 (mA_cutTo hc.1) rfl ⟨by omega, by decide⟩ (hk.2.2 i hi).2.1 ?_
              refine wp_iconst (v := (nI 1)) dX12_driftOfCuts_101 (by decide +kernel) ?_
              refine wp_isub dX12_driftOfCuts_102 ?_
              refine wp_ialdV dX12_driftOfCuts_103 (mA_rowKind hc.1) (isN_sub rfl rfl (by omega)) ⟨by omega, by decide⟩ (rx.2 ((l.getD i (0, 0)).2 - 1) (by omega)).2 ?_
              refine wp_cS2 0 0 [some _, some _] dX12_driftOfCuts_104 tX12_isOf sX12_isOf lX12_394 ⟨by decide, by decide⟩ (Nat.le_of_ble_eq_true rfl) (Nat.le_of_ble_eq_true rfl) rfl ?_
              refine pX12_isOf (by have := hl9; omega) (by have := kd_lt ((rwW r p but) ((l.getD i (0, 0)).2 - 1)); omega) (fun o4 => ?_) (fun o4 => ?_)
              · intro _ _
                refine wp_if_ne dX12_driftOfCuts_107 (fun _ => ?_) (fun q => absurd q (by decide +kernel))
                refine wp_iconst (v := (nI 0)) dX12_driftOfCuts_116 (by decide +kernel) ?_
                refine wp_istore (ls1 := [_, _, _, _, _, some _]) dX12_driftOfCuts_117 (by decide) rfl ?_
                refine drift_k hc hd hf hl1 hp rx hk hin hi (by omega) (fun k13 => ?_)
                refine wp_iinc1 (ls1 := [_, _, _, some _, _, _]) dX12_driftOfCuts_188 rfl (by decide) rfl ?_
                refine wp_goto dX12_driftOfCuts_191 ?_
                refine cast (congrArg (fun z => Wp mX12_driftOfCuts 2 42 5 [some (.ref 153), some (.int (nI f)), some (.int (nI z)), some (.int (nI (i + 1))), _, _] [] h Q) ?_) (ih (i + 1) _ _ (by omega) (by omega))
                rw [dfM_s]
                unfold mf1
                rw [if_neg (show ¬ ((l.getD i (0, 0)).2 - (l.getD i (0, 0)).1 < lrS r f 0 ∨ lrS r f 1 < (l.getD i (0, 0)).2 - (l.getD i (0, 0)).1) by omega)]; rw [if_pos o3]; split <;> omega
              · intro _ _
                refine wp_if_ne dX12_driftOfCuts_107 (fun q => absurd q (by decide +kernel)) (fun _ => ?_)
                refine wp_iload_n dX12_driftOfCuts_110 rfl rfl ?_
                refine wp_iconst (v := (nI 4)) dX12_driftOfCuts_111 (by decide +kernel) ?_
                refine wp_cS2 0 0 [some _, some _] dX12_driftOfCuts_112 tX12_lesser sX12_lesser lX12_448 ⟨by decide, by decide⟩ (Nat.le_of_ble_eq_true rfl) (Nat.le_of_ble_eq_true rfl) rfl ?_
                refine pX12_lesserN (by omega) (by omega) ?_
                intro _ _
                refine wp_istore_n (ls1 := [_, _, some _, _, _, _]) dX12_driftOfCuts_115 rfl (by decide) rfl ?_
                refine wp_iconst (v := (nI 0)) dX12_driftOfCuts_116 (by decide +kernel) ?_
                refine wp_istore (ls1 := [_, _, _, _, _, some _]) dX12_driftOfCuts_117 (by decide) rfl ?_
                refine drift_k hc hd hf hl1 hp rx hk hin hi (by omega) (fun k14 => ?_)
                refine wp_iinc1 (ls1 := [_, _, _, some _, _, _]) dX12_driftOfCuts_188 rfl (by decide) rfl ?_
                refine wp_goto dX12_driftOfCuts_191 ?_
                refine cast (congrArg (fun z => Wp mX12_driftOfCuts 2 42 5 [some (.ref 153), some (.int (nI f)), some (.int (nI z)), some (.int (nI (i + 1))), _, _] [] h Q) ?_) (ih (i + 1) _ _ (by omega) (by omega))
                rw [dfM_s]
                unfold mf1
                rw [if_neg (show ¬ ((l.getD i (0, 0)).2 - (l.getD i (0, 0)).1 < lrS r f 0 ∨ lrS r f 1 < (l.getD i (0, 0)).2 - (l.getD i (0, 0)).1) by omega)]; rw [if_pos o3]; split <;> omega
          · refine wp_iload_n dX12_driftOfCuts_50 rfl rfl ?_
            refine wp_iconst (v := (nI 2)) dX12_driftOfCuts_51 (by decide +kernel) ?_
            refine wp_cS2 0 0 [some _, some _] dX12_driftOfCuts_52 tX12_lesser sX12_lesser lX12_448 ⟨by decide, by decide⟩ (Nat.le_of_ble_eq_true rfl) (Nat.le_of_ble_eq_true rfl) rfl ?_
            refine pX12_lesserN (by omega) (by omega) ?_
            intro _ _
            refine wp_istore_n (ls1 := [_, _, some _, _, _, _]) dX12_driftOfCuts_55 rfl (by decide) rfl ?_
            refine wp_aload_n dX12_driftOfCuts_56 rfl rfl ?_
            refine wp_iload_n dX12_driftOfCuts_57 rfl rfl ?_
            refine wp_iconst (v := (nI 2)) dX12_driftOfCuts_58 (by decide +kernel) ?_
            refine wp_cV2 1 20 [some _, some _, some _] dX12_driftOfCuts_59 tX12_shapeOf rfl (by decide) nX12_shapeOf vX12_shapeOf lX12_469 ⟨by decide, by decide⟩ (Nat.le_of_ble_eq_true rfl) (mO hc.1) (Nat.le_of_ble_eq_true rfl) rfl ?_
            refine pX12_shapeOf' hc hd (by omega) (by omega) ?_
            intro _ _
            refine wp_aload_n dX12_driftOfCuts_62 rfl rfl ?_
            refine wp_getR dX12_driftOfCuts_63 lX12_61 rfl (mO hc.1) (mR_rowKind hc.1) ?_
            refine wp_aload_n dX12_driftOfCuts_66 rfl rfl ?_
            refine wp_getR dX12_driftOfCuts_67 lX12_64 rfl (mO hc.1) (mR_cutFrom hc.1) ?_
            refine wp_iload_n dX12_driftOfCuts_70 rfl rfl ?_
            refine wp_ialdV dX12_driftOfCuts_71 (mA_cutFrom hc.1) rfl ⟨by omega, by decide⟩ (hk.2.2 i hi).1 ?_
            refine wp_ialdV dX12_driftOfCuts_72 (mA_rowKind hc.1) rfl ⟨by omega, by decide⟩ (rx.2 ((l.getD i (0, 0)).1) (by omega)).2 ?_
            refine wp_cS2 0 0 [some _, some _] dX12_driftOfCuts_73 tX12_isOf sX12_isOf lX12_394 ⟨by decide, by decide⟩ (Nat.le_of_ble_eq_true rfl) (Nat.le_of_ble_eq_true rfl) rfl ?_
            refine pX12_isOf (by have := hl9; omega) (by have := kd_lt ((rwW r p but) (l.getD i (0, 0)).1); omega) (fun o3 => ?_) (fun o3 => ?_)
            · intro _ _
              refine wp_if_ne dX12_driftOfCuts_76 (fun _ => ?_) (fun q => absurd q (by decide +kernel))
              refine wp_aload_n dX12_driftOfCuts_85 rfl rfl ?_
              refine wp_iload_n dX12_driftOfCuts_86 rfl rfl ?_
              refine wp_iconst (v := (nI 3)) dX12_driftOfCuts_87 (by decide +kernel) ?_
              refine wp_cV2 1 20 [some _, some _, some _] dX12_driftOfCuts_88 tX12_shapeOf rfl (by decide) nX12_shapeOf vX12_shapeOf lX12_469 ⟨by decide, by decide⟩ (Nat.le_of_ble_eq_true rfl) (mO hc.1) (Nat.le_of_ble_eq_true rfl) rfl ?_
              refine pX12_shapeOf' hc hd (by omega) (by omega) ?_
              intro _ _
              refine wp_aload_n dX12_driftOfCuts_91 rfl rfl ?_
              refine wp_getR dX12_driftOfCuts_92 lX12_61 rfl (mO hc.1) (mR_rowKind hc.1) ?_
              refine wp_aload_n dX12_driftOfCuts_95 rfl rfl ?_
              refine wp_getR dX12_driftOfCuts_96 lX12_67 rfl (mO hc.1) (mR_cutTo hc.1) ?_
              refine wp_iload_n dX12_driftOfCuts_99 rfl rfl ?_
              refine wp_ialdV dX12_driftOfCuts_100 (mA_cutTo hc.1) rfl ⟨by omega, by decide⟩ (hk.2.2 i hi).2.1 ?_
              refine wp_iconst (v := (nI 1)) dX12_driftOfCuts_101 (by decide +kernel) ?_
              refine wp_isub dX12_driftOfCuts_102 ?_
              refine wp_ialdV dX12_driftOfCuts_103 (mA_rowKind hc.1) (isN_sub rfl rfl (by omega)) ⟨by omega, by decide⟩ (rx.2 ((l.getD i (0, 0)).2 - 1) (by omega)).2 ?_
              refine wp_cS2 0 0 [some _, some _] dX12_driftOfCuts_104 tX12_isOf sX12_isOf lX12_394 ⟨by decide, by decide⟩ (Nat.le_of_ble_eq_true rfl) (Nat.le_of_ble_eq_true rfl) rfl ?_
              refine pX12_isOf (by have := hl9; omega) (by have := kd_lt ((rwW r p but) ((l.getD i (0, 0)).2 - 1)); omega) (fun o4 => ?_) (fun o4 => ?_)
              · intro _ _
                refine wp_if_ne dX12_driftOfCuts_107 (fun _ => ?_) (fun q => absurd q (by decide +kernel))
                refine wp_iconst (v := (nI 0)) dX12_driftOfCuts_116 (by decide +kernel) ?_
                refine wp_istore (ls1 := [_, _, _, _, _, some _]) dX12_driftOfCuts_117 (by decide) rfl ?_
                refine drift_k hc hd hf hl1 hp rx hk hin hi (by omega) (fun k17 => ?_)
                refine wp_iinc1 (ls1 := [_, _, _, some _, _, _]) dX12_driftOfCuts_188 rfl (by decide) rfl ?_
                refine wp_goto dX12_driftOfCuts_191 ?_
                refine cast (congrArg (fun z => Wp mX12_driftOfCuts 2 42 5 [some (.ref 153), some (.int (nI f)), some (.int (nI z)), some (.int (nI (i + 1))), _, _] [] h Q) ?_) (ih (i + 1) _ _ (by omega) (by omega))
                rw [dfM_s]
                unfold mf1
                rw [if_pos (show (l.getD i (0, 0)).2 - (l.getD i (0, 0)).1 < lrS r f 0 ∨ lrS r f 1 < (l.getD i (0, 0)).2 - (l.getD i (0, 0)).1 by omega)]; split <;> omega
              · intro _ _
                refine wp_if_ne dX12_driftOfCuts_107 (fun q => absurd q (by decide +kernel)) (fun _ => ?_)
                refine wp_iload_n dX12_driftOfCuts_110 rfl rfl ?_
                refine wp_iconst (v := (nI 4)) dX12_driftOfCuts_111 (by decide +kernel) ?_
                refine wp_cS2 0 0 [some _, some _] dX12_driftOfCuts_112 tX12_lesser sX12_lesser lX12_448 ⟨by decide, by decide⟩ (Nat.le_of_ble_eq_true rfl) (Nat.le_of_ble_eq_true rfl) rfl ?_
                refine pX12_lesserN (by omega) (by omega) ?_
                intro _ _
                refine wp_istore_n (ls1 := [_, _, some _, _, _, _]) dX12_driftOfCuts_115 rfl (by decide) rfl ?_
                refine wp_iconst (v := (nI 0)) dX12_driftOfCuts_116 (by decide +kernel) ?_
                refine wp_istore (ls1 := [_, _, _, _, _, some _]) dX12_driftOfCuts_117 (by decide) rfl ?_
                refine drift_k hc hd hf hl1 hp rx hk hin hi (by omega) (fun k18 => ?_)
                refine wp_iinc1 (ls1 := [_, _, _, some _, _, _]) dX12_driftOfCuts_188 rfl (by decide) rfl ?_
                refine wp_goto dX12_driftOfCuts_191 ?_
                refine cast (congrArg (fun z => Wp mX12_driftOfCuts 2 42 5 [some (.ref 153), some (.int (nI f)), some (.int (nI z)), some (.int (nI (i + 1))), _, _] [] h Q) ?_) (ih (i + 1) _ _ (by omega) (by omega))
                rw [dfM_s]
                unfold mf1
                rw [if_pos (show (l.getD i (0, 0)).2 - (l.getD i (0, 0)).1 < lrS r f 0 ∨ lrS r f 1 < (l.getD i (0, 0)).2 - (l.getD i (0, 0)).1 by omega)]; split <;> omega
            · intro _ _
              refine wp_if_ne dX12_driftOfCuts_76 (fun q => absurd q (by decide +kernel)) (fun _ => ?_)
              refine wp_iload_n dX12_driftOfCuts_79 rfl rfl ?_
              refine wp_iconst (v := (nI 3)) dX12_driftOfCuts_80 (by decide +kernel) ?_
              refine wp_cS2 0 0 [some _, some _] dX12_driftOfCuts_81 tX12_lesser sX12_lesser lX12_448 ⟨by decide, by decide⟩ (Nat.le_of_ble_eq_true rfl) (Nat.le_of_ble_eq_true rfl) rfl ?_
              refine pX12_lesserN (by omega) (by omega) ?_
              intro _ _
              refine wp_istore_n (ls1 := [_, _, some _, _, _, _]) dX12_driftOfCuts_84 rfl (by decide) rfl ?_
              refine wp_aload_n dX12_driftOfCuts_85 rfl rfl ?_
              refine wp_iload_n dX12_driftOfCuts_86 rfl rfl ?_
              refine wp_iconst (v := (nI 3)) dX12_driftOfCuts_87 (by decide +kernel) ?_
              refine wp_cV2 1 20 [some _, some _, some _] dX12_driftOfCuts_88 tX12_shapeOf rfl (by decide) nX12_shapeOf vX12_shapeOf lX12_469 ⟨by decide, by decide⟩ (Nat.le_of_ble_eq_true rfl) (mO hc.1) (Nat.le_of_ble_eq_true rfl) rfl ?_
              refine pX12_shapeOf' hc hd (by omega) (by omega) ?_
              intro _ _
              refine wp_aload_n dX12_driftOfCuts_91 rfl rfl ?_
              refine wp_getR dX12_driftOfCuts_92 lX12_61 rfl (mO hc.1) (mR_rowKind hc.1) ?_
              refine wp_aload_n dX12_driftOfCuts_95 rfl rfl ?_
              refine wp_getR dX12_driftOfCuts_96 lX12_67 rfl (mO hc.1) (mR_cutTo hc.1) ?_
              refine wp_iload_n dX12_driftOfCuts_99 rfl rfl ?_
              refine wp_ialdV dX12_driftOfCuts_100 (mA_cutTo hc.1) rfl ⟨by omega, by decide⟩ (hk.2.2 i hi).2.1 ?_
              refine wp_iconst (v := (nI 1)) dX12_driftOfCuts_101 (by decide +kernel) ?_
              refine wp_isub dX12_driftOfCuts_102 ?_
              refine wp_ialdV dX12_driftOfCuts_103 (mA_rowKind hc.1) (isN_sub rfl rfl (by omega)) ⟨by omega, by decide⟩ (rx.2 ((l.getD i (0, 0)).2 - 1) (by omega)).2 ?_
              refine wp_cS2 0 0 [some _, some _] dX12_driftOfCuts_104 tX12_isOf sX12_isOf lX12_394 ⟨by decide, by decide⟩ (Nat.le_of_ble_eq_true rfl) (Nat.le_of_ble_eq_true rfl) rfl ?_
              refine pX12_isOf (by have := hl9; omega) (by have := kd_lt ((rwW r p but) ((l.getD i (0, 0)).2 - 1)); omega) (fun o4 => ?_) (fun o4 => ?_)
              · intro _ _
                refine wp_if_ne dX12_driftOfCuts_107 (fun _ => ?_) (fun q => absurd q (by decide +kernel))
                refine wp_iconst (v := (nI 0)) dX12_driftOfCuts_116 (by decide +kernel) ?_
                refine wp_istore (ls1 := [_, _, _, _, _, some _]) dX12_driftOfCuts_117 (by decide) rfl ?_
                refine drift_k hc hd hf hl1 hp rx hk hin hi (by omega) (fun k20 => ?_)
                refine wp_iinc1 (ls1 := [_, _, _, some _, _, _]) dX12_driftOfCuts_188 rfl (by decide) rfl ?_
                refine wp_goto dX12_driftOfCuts_191 ?_
                refine cast (congrArg (fun z => Wp mX12_driftOfCuts 2 42 5 [some (.ref 153), some (.int (nI f)), some (.int (nI z)), some (.int (nI (i + 1))), _, _] [] h Q) ?_) (ih (i + 1) _ _ (by omega) (by omega))
                rw [dfM_s]
                unfold mf1
                rw [if_pos (show (l.getD i (0, 0)).2 - (l.getD i (0, 0)).1 < lrS r f 0 ∨ lrS r f 1 < (l.getD i (0, 0)).2 - (l.getD i (0, 0)).1 by omega)]; split <;> omega
              · intro _ _
                refine wp_if_ne dX12_driftOfCuts_107 (fun q => absurd q (by decide +kernel)) (fun _ => ?_)
                refine wp_iload_n dX12_driftOfCuts_110 rfl rfl ?_
                refine wp_iconst (v := (nI 4)) dX12_driftOfCuts_111 (by decide +kernel) ?_
                refine wp_cS2 0 0 [some _, some _] dX12_driftOfCuts_112 tX12_lesser sX12_lesser lX12_448 ⟨by decide, by decide⟩ (Nat.le_of_ble_eq_true rfl) (Nat.le_of_ble_eq_true rfl) rfl ?_
                refine pX12_lesserN (by omega) (by omega) ?_
                intro _ _
                refine wp_istore_n (ls1 := [_, _, some _, _, _, _]) dX12_driftOfCuts_115 rfl (by decide) rfl ?_
                refine wp_iconst (v := (nI 0)) dX12_driftOfCuts_116 (by decide +kernel) ?_
                refine wp_istore (ls1 := [_, _, _, _, _, some _]) dX12_driftOfCuts_117 (by decide) rfl ?_
                refine drift_k hc hd hf hl1 hp rx hk hin hi (by omega) (fun k21 => ?_)
                refine wp_iinc1 (ls1 := [_, _, _, some _, _, _]) dX12_driftOfCuts_188 rfl (by decide) rfl ?_
                refine wp_goto dX12_driftOfCuts_191 ?_
                refine cast (congrArg (fun z => Wp mX12_driftOfCuts 2 42 5 [some (.ref 153), some (.int (nI f)), some (.int (nI z)), some (.int (nI (i + 1))), _, _] [] h Q) ?_) (ih (i + 1) _ _ (by omega) (by omega))
                rw [dfM_s]
                unfold mf1
                rw [if_pos (show (l.getD i (0, 0)).2 - (l.getD i (0, 0)).1 < lrS r f 0 ∨ lrS r f 1 < (l.getD i (0, 0)).2 - (l.getD i (0, 0)).1 by omega)]; split <;> omega
  refine wp_bipush (v := (nI 6)) dX12_driftOfCuts_0 (by decide +kernel) ?_
  refine wp_istore_n (ls1 := [_, _, some _, _, _, _]) dX12_driftOfCuts_2 rfl (by decide) rfl ?_
  refine wp_iconst (v := (nI 0)) dX12_driftOfCuts_3 (by decide +kernel) ?_
  refine wp_istore_n (ls1 := [_, _, _, some _, _, _]) dX12_driftOfCuts_4 rfl (by decide) rfl ?_
  exact hloop (l.length + 1) 0 _ _ (by omega) (by omega)
