/-! ===== which row is less ===== -/
def curR (T1 T2 T3 : Nat → Int32) (B : Nat → Option Nat) (d : Nat) (cur : Option (Nat × Nat × Nat)) : Prop := match cur with
  | none => T1 d = -1
  | some x => T1 d = nI x.1 ∧ T2 d = nI x.2.1 ∧ T3 d = nI x.2.2 ∧ x.1 ≤ 65 ∧ x.2.1 ≤ 20000 ∧ x.2.2 < 64 ∧ ∃ key, B x.2.2 = some key
theorem btr_some {B : Nat → Option Nat} {a b k key : Nat} {x : Nat × Nat × Nat} : btr B (a, b, k) key (some x) = if a ≠ x.1 then decide (a < x.1) else if b ≠ x.2.1 then decide (b < x.2.1) else decide (key < (B x.2.2).getD 0) := rfl
theorem bsR_some {h : mH} {n k key : Nat} {K : Nat → Nat} {B : Nat → Option Nat} (q : bsR h n K B) (hk : k < 64) (e : B k = some key) : ∃ i, i < n ∧ K i = key ∧ hI h 176 k = nI i := by
  rcases q k hk with ⟨z, _⟩ | ⟨i, hi, z, w⟩
  · rw [z] at e
    cases e
  · rw [z] at e
    cases e
    exact ⟨i, hi, rfl, w⟩
set_option maxRecDepth 20000 in
theorem pX12_isLess0 {h : mH} {Q : Option Value → mH → Prop} {r : Nat → Int64} {pa my : Nat → Int32} {f S n d k g i m1 c1 : Nat} {K O : Nat → Nat} (hs : mS h) (rl : ruL h r pa my f S n K O) (hd : d < 64) (hk : k < 64) (hi : i < n) (hbk : hI h 176 k = nI i) (hmt : hI h 177 (d ||| k) = nI m1) (hct : hI h 178 (d ||| k) = nI c1) (hm1 : m1 ≤ 65) (hc1 : c1 ≤ 20000) (hmd : hI h 177 d = -1) (hq : Q (some (.int (nI 1))) h) : Wp mX12_isLess 1 21 0 [some (.ref 153), some (.int (nI d)), some (.int (nI k)), some (.int (nI g)), none, none, none] [] h Q := by
  have hn9 := rl.2.1
  refine wp_iload_n dX12_isLess_0 rfl rfl ?_
  refine wp_iload_n dX12_isLess_1 rfl rfl ?_
  refine wp_ior dX12_isLess_2 ?_
  rw [nx_or]
  refine wp_istore (ls1 := [_, _, _, _, some _, _, _]) dX12_isLess_3 (by decide) rfl ?_
  refine wp_aload_n dX12_isLess_5 rfl rfl ?_
  refine wp_getR dX12_isLess_6 lX12_89 rfl (mO hs) (mR_bestMany hs) ?_
  refine wp_iload dX12_isLess_9 rfl ?_
  refine wp_ialdV dX12_isLess_11 (mA_bestMany hs) rfl ⟨lt64_or (by omega) (by omega), by decide⟩ hmt ?_
  refine wp_iconst (v := (-1)) dX12_isLess_12 (by decide +kernel) ?_
  refine wp_icmp_ne dX12_isLess_13 (fun _ => ?_) (fun q => absurd q (nI_ne_m1 (by omega)))
  refine wp_iconst (v := (nI 1)) dX12_isLess_18 (by decide +kernel) ?_
  refine wp_aload_n dX12_isLess_19 rfl rfl ?_
  refine wp_getR dX12_isLess_20 lX12_89 rfl (mO hs) (mR_bestMany hs) ?_
  refine wp_iload dX12_isLess_23 rfl ?_
  refine wp_ialdV dX12_isLess_25 (mA_bestMany hs) rfl ⟨lt64_or (by omega) (by omega), by decide⟩ hmt ?_
  refine wp_iadd dX12_isLess_26 ?_
  refine wp_istore (ls1 := [_, _, _, _, _, some _, _]) dX12_isLess_27 (by decide) rfl ?_
  refine wp_aload_n dX12_isLess_29 rfl rfl ?_
  refine wp_getR dX12_isLess_30 lX12_70 rfl (mO hs) (mR_key hs) ?_
  refine wp_aload_n dX12_isLess_33 rfl rfl ?_
  refine wp_getR dX12_isLess_34 lX12_86 rfl (mO hs) (mR_bestRule hs) ?_
  refine wp_iload_n dX12_isLess_37 rfl rfl ?_
  refine wp_ialdV dX12_isLess_38 (mA_bestRule hs) rfl ⟨by omega, by decide⟩ hbk ?_
  refine wp_laldV dX12_isLess_39 (mA_key hs) rfl ⟨by omega, by decide⟩ (rl.2.2.1 i (by omega)).1.1 ?_
  refine wp_cS1 0 0 [some _, none] dX12_isLess_40 tX12_costOfKey sX12_costOfKey lX12_413 ⟨by decide, by decide⟩ (Nat.le_of_ble_eq_true rfl) (Nat.le_of_ble_eq_true rfl) rfl ?_
  refine pX12_costOfKey (rl.2.2.1 i hi).1.2 ?_
  intro _ _
  refine wp_aload_n dX12_isLess_43 rfl rfl ?_
  refine wp_getR dX12_isLess_44 lX12_92 rfl (mO hs) (mR_bestCost hs) ?_
  refine wp_iload dX12_isLess_47 rfl ?_
  refine wp_ialdV dX12_isLess_49 (mA_bestCost hs) rfl ⟨lt64_or (by omega) (by omega), by decide⟩ hct ?_
  refine wp_iadd dX12_isLess_50 ?_
  refine wp_istore (ls1 := [_, _, _, _, _, _, some _]) dX12_isLess_51 (by decide) rfl ?_
  refine wp_aload_n dX12_isLess_53 rfl rfl ?_
  refine wp_getR dX12_isLess_54 lX12_89 rfl (mO hs) (mR_bestMany hs) ?_
  refine wp_iload_n dX12_isLess_57 rfl rfl ?_
  refine wp_ialdV dX12_isLess_58 (mA_bestMany hs) rfl ⟨by omega, by decide⟩ hmd ?_
  refine wp_iconst (v := (-1)) dX12_isLess_59 (by decide +kernel) ?_
  refine wp_icmp_eq dX12_isLess_60 (fun _ => ?_) (fun q => absurd (by decide +kernel) q)
  refine wp_aload_n dX12_isLess_74 rfl rfl ?_
  refine wp_getR dX12_isLess_75 lX12_89 rfl (mO hs) (mR_bestMany hs) ?_
  refine wp_iload_n dX12_isLess_78 rfl rfl ?_
  refine wp_ialdV dX12_isLess_79 (mA_bestMany hs) rfl ⟨by omega, by decide⟩ hmd ?_
  refine wp_iconst (v := (-1)) dX12_isLess_80 (by decide +kernel) ?_
  refine wp_icmp_eq dX12_isLess_81 (fun _ => ?_) (fun q => absurd (by decide +kernel) q)
  refine wp_iconst (v := (nI 1)) dX12_isLess_95 (by decide +kernel) ?_
  refine wp_goto dX12_isLess_96 ?_
  refine wp_zreturn dX12_isLess_100 rfl (Or.inr rfl) ?_
  exact hq
set_option maxRecDepth 20000 in
theorem pX12_isLess1 {h : mH} {Q : Option Value → mH → Prop} {r : Nat → Int64} {pa my : Nat → Int32} {f S n d k g i m1 c1 : Nat} {K O : Nat → Nat} {x : Nat × Nat × Nat} {j : Nat} {B : Nat → Option Nat} (hs : mS h) (rl : ruL h r pa my f S n K O) (hd : d < 64) (hk : k < 64) (hi : i < n) (hbk : hI h 176 k = nI i) (hmt : hI h 177 (d ||| k) = nI m1) (hct : hI h 178 (d ||| k) = nI c1) (hm1 : m1 ≤ 65) (hc1 : c1 ≤ 20000) (hmd : hI h 177 d = nI x.1) (hcd : hI h 178 d = nI x.2.1) (hnx : hI h 179 d = nI x.2.2) (hx1 : x.1 ≤ 65) (hx2 : x.2.1 ≤ 20000) (hx3 : x.2.2 < 64) (hj : j < n) (hbn : hI h 176 x.2.2 = nI j) (hBx : B x.2.2 = some (K j)) (ht : btr B (1 + m1, K i / 4294967296 + c1, k) (K i) (some x) = true → Q (some (.int (nI 1))) h) (hf : btr B (1 + m1, K i / 4294967296 + c1, k) (K i) (some x) = false → Q (some (.int (nI 0))) h) : Wp mX12_isLess 1 21 0 [some (.ref 153), some (.int (nI d)), some (.int (nI k)), some (.int (nI g)), none, none, none] [] h Q := by
  have hn9 := rl.2.1
  refine wp_iload_n dX12_isLess_0 rfl rfl ?_
  refine wp_iload_n dX12_isLess_1 rfl rfl ?_
  refine wp_ior dX12_isLess_2 ?_
  rw [nx_or]
  refine wp_istore (ls1 := [_, _, _, _, some _, _, _]) dX12_isLess_3 (by decide) rfl ?_
  refine wp_aload_n dX12_isLess_5 rfl rfl ?_
  refine wp_getR dX12_isLess_6 lX12_89 rfl (mO hs) (mR_bestMany hs) ?_
  refine wp_iload dX12_isLess_9 rfl ?_
  refine wp_ialdV dX12_isLess_11 (mA_bestMany hs) rfl ⟨lt64_or (by omega) (by omega), by decide⟩ hmt ?_
  refine wp_iconst (v := (-1)) dX12_isLess_12 (by decide +kernel) ?_
  refine wp_icmp_ne dX12_isLess_13 (fun _ => ?_) (fun q => absurd q (nI_ne_m1 (by omega)))
  refine wp_iconst (v := (nI 1)) dX12_isLess_18 (by decide +kernel) ?_
  refine wp_aload_n dX12_isLess_19 rfl rfl ?_
  refine wp_getR dX12_isLess_20 lX12_89 rfl (mO hs) (mR_bestMany hs) ?_
  refine wp_iload dX12_isLess_23 rfl ?_
  refine wp_ialdV dX12_isLess_25 (mA_bestMany hs) rfl ⟨lt64_or (by omega) (by omega), by decide⟩ hmt ?_
  refine wp_iadd dX12_isLess_26 ?_
  refine wp_istore (ls1 := [_, _, _, _, _, some _, _]) dX12_isLess_27 (by decide) rfl ?_
  refine wp_aload_n dX12_isLess_29 rfl rfl ?_
  refine wp_getR dX12_isLess_30 lX12_70 rfl (mO hs) (mR_key hs) ?_
  refine wp_aload_n dX12_isLess_33 rfl rfl ?_
  refine wp_getR dX12_isLess_34 lX12_86 rfl (mO hs) (mR_bestRule hs) ?_
  refine wp_iload_n dX12_isLess_37 rfl rfl ?_
  refine wp_ialdV dX12_isLess_38 (mA_bestRule hs) rfl ⟨by omega, by decide⟩ hbk ?_
  refine wp_laldV dX12_isLess_39 (mA_key hs) rfl ⟨by omega, by decide⟩ (rl.2.2.1 i (by omega)).1.1 ?_
  refine wp_cS1 0 0 [some _, none] dX12_isLess_40 tX12_costOfKey sX12_costOfKey lX12_413 ⟨by decide, by decide⟩ (Nat.le_of_ble_eq_true rfl) (Nat.le_of_ble_eq_true rfl) rfl ?_
  refine pX12_costOfKey (rl.2.2.1 i hi).1.2 ?_
  intro _ _
  refine wp_aload_n dX12_isLess_43 rfl rfl ?_
  refine wp_getR dX12_isLess_44 lX12_92 rfl (mO hs) (mR_bestCost hs) ?_
  refine wp_iload dX12_isLess_47 rfl ?_
  refine wp_ialdV dX12_isLess_49 (mA_bestCost hs) rfl ⟨lt64_or (by omega) (by omega), by decide⟩ hct ?_
  refine wp_iadd dX12_isLess_50 ?_
  refine wp_istore (ls1 := [_, _, _, _, _, _, some _]) dX12_isLess_51 (by decide) rfl ?_
  refine wp_aload_n dX12_isLess_53 rfl rfl ?_
  refine wp_getR dX12_isLess_54 lX12_89 rfl (mO hs) (mR_bestMany hs) ?_
  refine wp_iload_n dX12_isLess_57 rfl rfl ?_
  refine wp_ialdV dX12_isLess_58 (mA_bestMany hs) rfl ⟨by omega, by decide⟩ hmd ?_
  refine wp_iconst (v := (-1)) dX12_isLess_59 (by decide +kernel) ?_
  refine wp_icmp_eq dX12_isLess_60 (fun q => absurd q (nI_ne_m1 (by omega))) (fun _ => ?_)
  refine wp_iload dX12_isLess_63 rfl ?_
  refine wp_aload_n dX12_isLess_65 rfl rfl ?_
  refine wp_getR dX12_isLess_66 lX12_89 rfl (mO hs) (mR_bestMany hs) ?_
  refine wp_iload_n dX12_isLess_69 rfl rfl ?_
  refine wp_ialdV dX12_isLess_70 (mA_bestMany hs) rfl ⟨by omega, by decide⟩ hmd ?_
  refine wp_icmp_eqN dX12_isLess_71 (isN_add rfl rfl) rfl ⟨by have := (rl.2.2.1 i hi).1.2; omega, by omega⟩ (fun c3 => ?_) (fun c3 => ?_)
  · refine wp_iload dX12_isLess_101 rfl ?_
    refine wp_aload_n dX12_isLess_103 rfl rfl ?_
    refine wp_getR dX12_isLess_104 lX12_92 rfl (mO hs) (mR_bestCost hs) ?_
    refine wp_iload_n dX12_isLess_107 rfl rfl ?_
    refine wp_ialdV dX12_isLess_108 (mA_bestCost hs) rfl ⟨by omega, by decide⟩ hcd ?_
    refine wp_icmp_eqN dX12_isLess_109 (isN_add rfl rfl) rfl ⟨by have := (rl.2.2.1 i hi).1.2; omega, by omega⟩ (fun c4 => ?_) (fun c4 => ?_)
    · refine wp_aload_n dX12_isLess_129 rfl rfl ?_
      refine wp_getR dX12_isLess_130 lX12_70 rfl (mO hs) (mR_key hs) ?_
      refine wp_aload_n dX12_isLess_133 rfl rfl ?_
      refine wp_getR dX12_isLess_134 lX12_86 rfl (mO hs) (mR_bestRule hs) ?_
      refine wp_iload_n dX12_isLess_137 rfl rfl ?_
      refine wp_ialdV dX12_isLess_138 (mA_bestRule hs) rfl ⟨by omega, by decide⟩ hbk ?_
      refine wp_laldV dX12_isLess_139 (mA_key hs) rfl ⟨by omega, by decide⟩ (rl.2.2.1 i (by omega)).1.1 ?_
      refine wp_aload_n dX12_isLess_140 rfl rfl ?_
      refine wp_getR dX12_isLess_141 lX12_70 rfl (mO hs) (mR_key hs) ?_
      refine wp_aload_n dX12_isLess_144 rfl rfl ?_
      refine wp_getR dX12_isLess_145 lX12_86 rfl (mO hs) (mR_bestRule hs) ?_
      refine wp_aload_n dX12_isLess_148 rfl rfl ?_
      refine wp_getR dX12_isLess_149 lX12_95 rfl (mO hs) (mR_next hs) ?_
      refine wp_iload_n dX12_isLess_152 rfl rfl ?_
      refine wp_ialdV dX12_isLess_153 (mA_next hs) rfl ⟨by omega, by decide⟩ hnx ?_
      refine wp_ialdV dX12_isLess_154 (mA_bestRule hs) rfl ⟨by omega, by decide⟩ hbn ?_
      refine wp_laldV dX12_isLess_155 (mA_key hs) rfl ⟨by omega, by decide⟩ (rl.2.2.1 j (by omega)).1.1 ?_
      refine wp_lc_ge dX12_isLess_156 dX12_isLess_157 (fun c5 => ?_) (fun c5 => ?_)
      · refine wp_iconst (v := (nI 0)) dX12_isLess_164 (by decide +kernel) ?_
        refine wp_zreturn dX12_isLess_165 rfl (Or.inl rfl) ?_
        refine hf ?_
        rw [btr_some]
        first | (rw [if_pos (by omega)]; exact decide_eq_false (by omega)) | (rw [if_neg (by omega), if_pos (by omega)]; exact decide_eq_false (by omega)) | (rw [if_neg (by omega), if_neg (by omega), hBx]; show decide (K i < K j) = _; exact decide_eq_false (Nat.not_lt.mpr ((pk_lLE (by have := (rl.2.2.1 j hj).1.2; omega) (by have := (rl.2.2.1 i hi).1.2; omega)).mp (by assumption : lN (K j) ≤ lN (K i)))))
      · refine wp_iconst (v := (nI 1)) dX12_isLess_160 (by decide +kernel) ?_
        refine wp_goto dX12_isLess_161 ?_
        refine wp_zreturn dX12_isLess_165 rfl (Or.inr rfl) ?_
        refine ht ?_
        rw [btr_some]
        first | (rw [if_pos (by omega)]; exact decide_eq_true (by omega)) | (rw [if_neg (by omega), if_pos (by omega)]; exact decide_eq_true (by omega)) | (rw [if_neg (by omega), if_neg (by omega), hBx]; show decide (K i < K j) = _; exact decide_eq_true (Nat.lt_of_not_le (fun z9 => (by assumption : ¬ lN (K j) ≤ lN (K i)) ((pk_lLE (by have := (rl.2.2.1 j hj).1.2; omega) (by have := (rl.2.2.1 i hi).1.2; omega)).mpr z9))))
    · refine wp_iload dX12_isLess_112 rfl ?_
      refine wp_aload_n dX12_isLess_114 rfl rfl ?_
      refine wp_getR dX12_isLess_115 lX12_92 rfl (mO hs) (mR_bestCost hs) ?_
      refine wp_iload_n dX12_isLess_118 rfl rfl ?_
      refine wp_ialdV dX12_isLess_119 (mA_bestCost hs) rfl ⟨by omega, by decide⟩ hcd ?_
      refine wp_icmp_geN dX12_isLess_120 (isN_add rfl rfl) rfl ⟨by have := (rl.2.2.1 i hi).1.2; omega, by omega⟩ (fun c6 => ?_) (fun c6 => ?_)
      · refine wp_iconst (v := (nI 0)) dX12_isLess_127 (by decide +kernel) ?_
        refine wp_zreturn dX12_isLess_128 rfl (Or.inl rfl) ?_
        refine hf ?_
        rw [btr_some]
        first | (rw [if_pos (by omega)]; exact decide_eq_false (by omega)) | (rw [if_neg (by omega), if_pos (by omega)]; exact decide_eq_false (by omega)) | (rw [if_neg (by omega), if_neg (by omega), hBx]; show decide (K i < K j) = _; exact decide_eq_false (Nat.not_lt.mpr ((pk_lLE (by have := (rl.2.2.1 j hj).1.2; omega) (by have := (rl.2.2.1 i hi).1.2; omega)).mp (by assumption : lN (K j) ≤ lN (K i)))))
      · refine wp_iconst (v := (nI 1)) dX12_isLess_123 (by decide +kernel) ?_
        refine wp_goto dX12_isLess_124 ?_
        refine wp_zreturn dX12_isLess_128 rfl (Or.inr rfl) ?_
        refine ht ?_
        rw [btr_some]
        first | (rw [if_pos (by omega)]; exact decide_eq_true (by omega)) | (rw [if_neg (by omega), if_pos (by omega)]; exact decide_eq_true (by omega)) | (rw [if_neg (by omega), if_neg (by omega), hBx]; show decide (K i < K j) = _; exact decide_eq_true (Nat.lt_of_not_le (fun z9 => (by assumption : ¬ lN (K j) ≤ lN (K i)) ((pk_lLE (by have := (rl.2.2.1 j hj).1.2; omega) (by have := (rl.2.2.1 i hi).1.2; omega)).mpr z9))))
  · refine wp_aload_n dX12_isLess_74 rfl rfl ?_
    refine wp_getR dX12_isLess_75 lX12_89 rfl (mO hs) (mR_bestMany hs) ?_
    refine wp_iload_n dX12_isLess_78 rfl rfl ?_
    refine wp_ialdV dX12_isLess_79 (mA_bestMany hs) rfl ⟨by omega, by decide⟩ hmd ?_
    refine wp_iconst (v := (-1)) dX12_isLess_80 (by decide +kernel) ?_
    refine wp_icmp_eq dX12_isLess_81 (fun q => absurd q (nI_ne_m1 (by omega))) (fun _ => ?_)
    refine wp_iload dX12_isLess_84 rfl ?_
    refine wp_aload_n dX12_isLess_86 rfl rfl ?_
    refine wp_getR dX12_isLess_87 lX12_89 rfl (mO hs) (mR_bestMany hs) ?_
    refine wp_iload_n dX12_isLess_90 rfl rfl ?_
    refine wp_ialdV dX12_isLess_91 (mA_bestMany hs) rfl ⟨by omega, by decide⟩ hmd ?_
    refine wp_icmp_geN dX12_isLess_92 (isN_add rfl rfl) rfl ⟨by have := (rl.2.2.1 i hi).1.2; omega, by omega⟩ (fun c8 => ?_) (fun c8 => ?_)
    · refine wp_iconst (v := (nI 0)) dX12_isLess_99 (by decide +kernel) ?_
      refine wp_zreturn dX12_isLess_100 rfl (Or.inl rfl) ?_
      refine hf ?_
      rw [btr_some]
      first | (rw [if_pos (by omega)]; exact decide_eq_false (by omega)) | (rw [if_neg (by omega), if_pos (by omega)]; exact decide_eq_false (by omega)) | (rw [if_neg (by omega), if_neg (by omega), hBx]; show decide (K i < K j) = _; exact decide_eq_false (Nat.not_lt.mpr ((pk_lLE (by have := (rl.2.2.1 j hj).1.2; omega) (by have := (rl.2.2.1 i hi).1.2; omega)).mp (by assumption : lN (K j) ≤ lN (K i)))))
    · refine wp_iconst (v := (nI 1)) dX12_isLess_95 (by decide +kernel) ?_
      refine wp_goto dX12_isLess_96 ?_
      refine wp_zreturn dX12_isLess_100 rfl (Or.inr rfl) ?_
      refine ht ?_
      rw [btr_some]
      first | (rw [if_pos (by omega)]; exact decide_eq_true (by omega)) | (rw [if_neg (by omega), if_pos (by omega)]; exact decide_eq_true (by omega)) | (rw [if_neg (by omega), if_neg (by omega), hBx]; show decide (K i < K j) = _; exact decide_eq_true (Nat.lt_of_not_le (fun z9 => (by assumption : ¬ lN (K j) ≤ lN (K i)) ((pk_lLE (by have := (rl.2.2.1 j hj).1.2; omega) (by have := (rl.2.2.1 i hi).1.2; omega)).mpr z9))))
theorem pX12_isLess {h : mH} {Q : Option Value → mH → Prop} {r : Nat → Int64} {pa my : Nat → Int32} {f S n d k g i m1 c1 : Nat} {K O : Nat → Nat} {B : Nat → Option Nat} {cur : Option (Nat × Nat × Nat)} (hs : mS h) (rl : ruL h r pa my f S n K O) (hd : d < 64) (hk : k < 64) (hi : i < n) (hbk : hI h 176 k = nI i) (hmt : hI h 177 (d ||| k) = nI m1) (hct : hI h 178 (d ||| k) = nI c1) (hm1 : m1 ≤ 65) (hc1 : c1 ≤ 20000) (bs : bsR h n K B) (hcur : curR (hI h 177) (hI h 178) (hI h 179) B d cur) (ht : btr B (1 + m1, K i / 4294967296 + c1, k) (K i) cur = true → Q (some (.int (nI 1))) h) (hf : btr B (1 + m1, K i / 4294967296 + c1, k) (K i) cur = false → Q (some (.int (nI 0))) h) : Wp mX12_isLess 1 21 0 [some (.ref 153), some (.int (nI d)), some (.int (nI k)), some (.int (nI g)), none, none, none] [] h Q := by
  cases cur with
  | none => exact pX12_isLess0 hs rl hd hk hi hbk hmt hct hm1 hc1 hcur (ht rfl)
  | some x =>
    obtain ⟨h1, h2, h3, h4, h5, h6, key, h7⟩ := hcur
    obtain ⟨j, hj, e, hbn⟩ := bsR_some bs h6 h7
    subst e
    exact pX12_isLess1 hs rl hd hk hi hbk hmt hct hm1 hc1 h1 h2 h3 h4 h5 h6 hj hbn h7 ht hf
