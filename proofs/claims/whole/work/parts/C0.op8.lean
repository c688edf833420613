/-! ===== opinion ===== -/
def opV (l : List (Nat × Nat)) (vb j : Nat) : Int32 := if j = 1 then nI vb else if j = 2 then nI l.length else if l.length = 0 then -1 else if j = 3 then nI (l.getD 0 (0, 0)).1 else nI (l.getD 0 (0, 0)).2
theorem opn_no {r : Nat → Int64} {F : Nat} {pa my : Nat → Int32} {x y w : Int32} (h : (ix x (rP r) = none ∨ ix y F = none) ∨ ix w 5 = none) : ∀ v, spOpinion r F pa my x y w v → v = -1 := by
  intro v hv
  unfold spOpinion at hv
  rcases h with (h | h) | h
  · rw [h] at hv; exact hv
  · rw [h] at hv
    cases a : ix x (rP r) <;> rw [a] at hv <;> exact hv
  · rw [h] at hv
    cases a : ix x (rP r) <;> cases b : ix y F <;> rw [a, b] at hv <;> exact hv
theorem opn_0 {r : Nat → Int64} {F : Nat} {pa my : Nat → Int32} {p f N : Nat} {OL : Nat → List (Nat × Nat)} {V FK : Nat → Nat} (hd : sOK r F pa my) (hp : p < rP r) (hf : f < F) (q : opC r pa my p f N OL V FK) : ∀ v, spOpinion r F pa my (nI p) (nI f) (nI 0) v → v = nI N := by
  have hF4 := hd.f4
  have hP6 := hd.w.1.2
  intro v hv
  unfold spOpinion at hv
  rw [ix_nI hp (by omega), ix_nI hf (by omega), ix_nI (n := 5) (by decide) (by decide)] at hv
  obtain ⟨N', OL', V', FK', q', h⟩ := hv
  rw [if_pos rfl] at h
  rw [h, op_N hd q q']
theorem opn_1 {r : Nat → Int64} {F : Nat} {pa my : Nat → Int32} {p f N j : Nat} {OL : Nat → List (Nat × Nat)} {V FK : Nat → Nat} (hd : sOK r F pa my) (hp : p < rP r) (hf : f < F) (hj : 0 < j ∧ j < 5) (q : opC r pa my p f N OL V FK) (h0 : N = 0) : ∀ v, spOpinion r F pa my (nI p) (nI f) (nI j) v → v = -1 := by
  have hF4 := hd.f4
  have hP6 := hd.w.1.2
  intro v hv
  unfold spOpinion at hv
  rw [ix_nI hp (by omega), ix_nI hf (by omega), ix_nI hj.2 (by decide)] at hv
  obtain ⟨N', OL', V', FK', q', h⟩ := hv
  rw [if_neg (by omega), if_pos (by rw [← op_N hd q q']; exact h0)] at h
  exact h
theorem opn_2 {r : Nat → Int64} {F : Nat} {pa my : Nat → Int32} {p f N j b : Nat} {OL : Nat → List (Nat × Nat)} {V FK : Nat → Nat} (hd : sOK r F pa my) (hp : p < rP r) (hf : f < F) (hj : 0 < j ∧ j < 5) (q : opC r pa my p f N OL V FK) (hb : sgI (fun _ => True) V N (some b)) : ∀ v, spOpinion r F pa my (nI p) (nI f) (nI j) v → v = opV (OL b) (V b) j := by
  have hF4 := hd.f4
  have hP6 := hd.w.1.2
  intro v hv
  unfold spOpinion at hv
  rw [ix_nI hp (by omega), ix_nI hf (by omega), ix_nI hj.2 (by decide)] at hv
  obtain ⟨N', OL', V', FK', q', h⟩ := hv
  have hb1 := hb.1
  rw [if_neg (by omega), if_neg (by rw [← op_N hd q q']; omega)] at h
  obtain ⟨b', h1, h2⟩ := h
  obtain ⟨c, K, O, ru, cv⟩ := id q
  have e := op_b (ok := fun _ => True) hd q q' (sg_fin cv hb) h1
  rw [h2, ← e.1, ← e.2]
  rfl
theorem opn_p {l : List (Nat × Nat)} {vb : Nat} (h8 : l.length ≤ 8) : opV l vb 3 = partV l (nI 0) (nI 0) ∧ opV l vb 4 = partV l (nI 0) (nI 1) := by
  show (if l.length = 0 then (-1 : Int32) else nI (l.getD 0 (0, 0)).1) = _ ∧ (if l.length = 0 then (-1 : Int32) else nI (l.getD 0 (0, 0)).2) = _
  by_cases e : l.length = 0
  · rw [if_pos e, if_pos e]
    have : l = [] := List.length_eq_zero_iff.mp e
    subst this
    exact ⟨by decide +kernel, by decide +kernel⟩
  · rw [if_neg e, if_neg e, partV_0 ⟨by omega, h8⟩, partV_1 ⟨by omega, h8⟩]
    exact ⟨rfl, rfl⟩
set_option maxRecDepth 20000 in
theorem pX11_opinion {h : mH} {Q : Option Value → mH → Prop} {ow : Nat → Nat} {F fa o1 d1 u1 : Nat} {pa my : Nat → Int32} {r : Nat → Int64} {pl : Nat → Int64} {gb ge : Int32} {gs gn : Int64} {gf gt : Int32} {n w : Nat} {x y z : Int32} (e9 : eS ow h F pa my r fa o1 d1 u1) (hd : sOK r F pa my) (zg : zG ow h pl gb ge gs gn gf gt) (tw : tbW ow h r pa my F (7 * (20480 - n)) w) (hw : w ≤ 8000000) (ti : tyI ow h r pa my F n) (hq : ∀ h' ow' u n' v, cFr [1, 10, 11, 12, 13, 14] u ow h ow' h' → tbW ow' h' r pa my F (7 * (20480 - n')) w → (∃ pl gb ge gs gn gf gt, zG ow' h' pl gb ge gs gn gf gt) → tyI ow' h' r pa my F n' → (∀ v', spOpinion r F pa my x y z v' → v' = v) → Q (some (.int v)) h') : Wp mX11_opinion 8 210 0 [some (.ref 0), some (.int x), some (.int y), some (.int z), none] [] h Q := by
  have hP6 := hd.w.1.2
  have hF4 := hd.f4
  refine wp_aload_n dX11_opinion_0 rfl rfl ?_
  refine wp_iload_n dX11_opinion_1 rfl rfl ?_
  refine wp_iload_n dX11_opinion_2 rfl rfl ?_
  refine wp_cV2 3 63 [some _, some _, some _] dX11_opinion_3 tX11_known rfl (by decide) nX11_known vX11_known lX11_276 ⟨by decide, by decide⟩ (Nat.le_of_ble_eq_true rfl) e9.oo (Nat.le_of_ble_eq_true rfl) rfl ?_
  refine pX11_known e9 hd (fun p1 f1 hp1 hf1 ep1 ef1 => ?_) (fun xn1 => ?_)
  · subst ep1
    subst ef1
    intro _ _
    refine wp_if_eq dX11_opinion_6 (fun q => absurd q (by decide +kernel)) (fun _ => ?_)
    refine wp_iload_n dX11_opinion_9 rfl rfl ?_
    refine wp_if_lt dX11_opinion_10 (fun c3 => ?_) (fun c3 => ?_)
    · refine wp_iconst (v := (-1)) dX11_opinion_18 (by decide +kernel) ?_
      refine wp_ireturn dX11_opinion_19 rfl ?_
      exact hq _ _ 0 n _ cFr.rf tw ⟨_, _, _, _, _, _, _, zg⟩ ti (opn_no (Or.inr (ix_lt0 c3)))
    · refine wp_iload_n dX11_opinion_13 rfl rfl ?_
      refine wp_iconst (v := (nI 4)) dX11_opinion_14 (by decide +kernel) ?_
      refine wp_icmp_le dX11_opinion_15 (fun c5 => ?_) (fun c5 => ?_)
      · obtain ⟨j2, hj2, ej2⟩ := ix_le (by omega) c3 c5
        subst ej2
        refine wp_aload_n dX11_opinion_20 rfl rfl ?_
        refine wp_iload_n dX11_opinion_21 rfl rfl ?_
        refine wp_iload_n dX11_opinion_22 rfl rfl ?_
        refine wp_cV2 7 185 [some _, some _, some _, none, none, none] dX11_opinion_23 tX11_countVotes rfl (by decide) nX11_countVotes vX11_countVotes lX11_380 ⟨by decide, by decide⟩ (Nat.le_of_ble_eq_true rfl) e9.oo (Nat.le_of_ble_eq_true rfl) rfl ?_
        refine pX11_countVotes e9 hd zg tw hw ti (by omega) (by omega) (fun hh3 ow3 uu3 n3 f3r e9_3 tw_3 gg3 hn3 ty3 => ?_)
        intro _ _
        obtain ⟨_, _, _, _, _, _, _, zg_3⟩ := gg3
        obtain ⟨_, _, _, _, _, _, N3, OL3, V3, FK3, T3, zy3, hNn3, hTT3, tyv3, oc3⟩ := id ty3
        have ob3 := op_8 hd oc3 (by omega) (by omega)
        have hT3 := (hd.w.2.1 p1 (by omega)).2
        refine wp_iload_n dX11_opinion_26 rfl rfl ?_
        refine wp_if_neN dX11_opinion_27 rfl (by omega) (fun c6 => ?_) (fun c6 => ?_)
        · refine wp_aload_n dX11_opinion_38 rfl rfl ?_
          refine wp_getR dX11_opinion_39 lX11_67 rfl e9_3.oo e9_3.r11 ?_
          refine wp_null dX11_opinion_42 ?_
          refine wp_null dX11_opinion_43 ?_
          refine wp_cV2 4 96 [some _, some _, some _, none, none, none] dX11_opinion_44 tX10_strongest rfl (by decide) nX10_strongest vX10_strongest lX11_385 ⟨by decide, by decide⟩ (Nat.le_of_ble_eq_true rfl) zy3.o (Nat.le_of_ble_eq_true rfl) rfl ?_
          refine pX10_strongest0 zy3 hNn3 tyv3 (by omega) ob3.2.1 (fun bo9 sg9 => ?_)
          intro _ _
          refine wp_istore (ls1 := [_, _, _, _, some _]) dX11_opinion_47 (by decide) rfl ?_
          refine wp_iload dX11_opinion_49 rfl ?_
          refine wp_iconst (v := (-1)) dX11_opinion_51 (by decide +kernel) ?_
          cases bo9 with
          | none =>
            refine wp_icmp_ne dX11_opinion_52 (fun q => absurd rfl q) (fun _ => ?_)
            refine wp_iconst (v := (-1)) dX11_opinion_55 (by decide +kernel) ?_
            refine wp_ireturn dX11_opinion_56 rfl ?_
            have hN0 : N3 = 0 := Classical.byContradiction (fun c => sg9 0 (by omega) True.intro)
            exact hq _ _ _ n3 _ (f3r.up (by decide) (Nat.le_refl _)) tw_3 ⟨_, _, _, _, _, _, _, zg_3⟩ ⟨hn3, Or.inr ⟨p1, f1, by omega, by omega, ty3⟩⟩ (opn_1 hd (by omega) (by omega) ⟨by omega, by omega⟩ oc3 hN0)
          | some b =>
            have hbN := sg9.1
            refine wp_icmp_ne dX11_opinion_52 (fun _ => ?_) (fun q => absurd q (nI_ne_m1 (show b < 2147483648 by omega)))
            refine wp_iload_n dX11_opinion_57 rfl rfl ?_
            rcases (by omega : j2 = 1 ∨ j2 = 2 ∨ j2 = 3 ∨ j2 = 4) with rfl | rfl | rfl | rfl
            · refine wp_lookup (off := 26) (t := 84) dX11_opinion_58 (by decide +kernel) (by decide +kernel) (by decide +kernel) ?_
              refine wp_aload_n dX11_opinion_84 rfl rfl ?_
              refine wp_getR dX11_opinion_85 lX11_67 rfl e9_3.oo e9_3.r11 ?_
              refine wp_getR dX11_opinion_88 lX11_389 rfl zy3.o zy3.r5 ?_
              refine wp_iload dX11_opinion_91 rfl ?_
              refine wp_ialdV dX11_opinion_93 zy3.a5 rfl ⟨by omega, by omega⟩ ((congrFun zy3.c5 _).trans (tyv3 b hbN).2.1) ?_
              refine wp_ireturn dX11_opinion_94 rfl ?_
              exact hq _ _ _ n3 _ (f3r.up (by decide) (Nat.le_refl _)) tw_3 ⟨_, _, _, _, _, _, _, zg_3⟩ ⟨hn3, Or.inr ⟨p1, f1, by omega, by omega, ty3⟩⟩ (fun v9 h9 => (opn_2 hd (by omega) (by omega) ⟨by omega, by omega⟩ oc3 sg9 v9 h9).trans (rfl))
            · refine wp_lookup (off := 37) (t := 95) dX11_opinion_58 (by decide +kernel) (by decide +kernel) (by decide +kernel) ?_
              refine wp_aload_n dX11_opinion_95 rfl rfl ?_
              refine wp_getR dX11_opinion_96 lX11_67 rfl e9_3.oo e9_3.r11 ?_
              refine wp_getR dX11_opinion_99 lX11_263 rfl zy3.o zy3.r3 ?_
              refine wp_iload dX11_opinion_102 rfl ?_
              refine wp_laldV dX11_opinion_104 zy3.a3 rfl ⟨by omega, by omega⟩ ((congrFun zy3.c3 _).trans (tyv3 b hbN).1.1) ?_
              refine wp_cS1 0 0 [some _, none] dX11_opinion_105 tJ13_bitCount_95d88 sJ13_bitCount_95d88 lX11_216 ⟨by decide, by decide⟩ (Nat.le_of_ble_eq_true rfl) (Nat.le_of_ble_eq_true rfl) rfl ?_
              refine pJ13_bitCount_95d88 (Nat.lt_trans (bs_lt (tyv3 b hbN).2.2 (by omega)).1 (by decide)) ?_
              intro _ _
              rw [show pop (bsA (OL3 b)) = (OL3 b).length from (bsN_pop (srt_asc (tyv3 b hbN).2.2 (by omega)).1).trans (List.length_map ..)]
              refine wp_ireturn dX11_opinion_108 rfl ?_
              exact hq _ _ _ n3 _ (f3r.up (by decide) (Nat.le_refl _)) tw_3 ⟨_, _, _, _, _, _, _, zg_3⟩ ⟨hn3, Or.inr ⟨p1, f1, by omega, by omega, ty3⟩⟩ (fun v9 h9 => (opn_2 hd (by omega) (by omega) ⟨by omega, by omega⟩ oc3 sg9 v9 h9).trans (rfl))
            · refine wp_lookup (off := 51) (t := 109) dX11_opinion_58 (by decide +kernel) (by decide +kernel) (by decide +kernel) ?_
              refine wp_aload_n dX11_opinion_109 rfl rfl ?_
              refine wp_getR dX11_opinion_110 lX11_67 rfl e9_3.oo e9_3.r11 ?_
              refine wp_getR dX11_opinion_113 lX11_263 rfl zy3.o zy3.r3 ?_
              refine wp_iload dX11_opinion_116 rfl ?_
              refine wp_laldV dX11_opinion_118 zy3.a3 rfl ⟨by omega, by omega⟩ ((congrFun zy3.c3 _).trans (tyv3 b hbN).1.1) ?_
              refine wp_aload_n dX11_opinion_119 rfl rfl ?_
              refine wp_getR dX11_opinion_120 lX11_67 rfl e9_3.oo e9_3.r11 ?_
              refine wp_getR dX11_opinion_123 lX11_264 rfl zy3.o zy3.r4 ?_
              refine wp_iload dX11_opinion_126 rfl ?_
              refine wp_laldV dX11_opinion_128 zy3.a4 rfl ⟨by omega, by omega⟩ ((congrFun zy3.c4 _).trans (tyv3 b hbN).1.2) ?_
              refine wp_iconst (v := (nI 0)) dX11_opinion_129 (by decide +kernel) ?_
              refine wp_iload_n dX11_opinion_130 rfl rfl ?_
              refine wp_iconst (v := (nI 3)) dX11_opinion_131 (by decide +kernel) ?_
              refine wp_isub dX11_opinion_132 ?_
              refine wp_cS4 3 67 [some _, none, some _, none, some _, some _, none] dX11_opinion_133 tX11_partOf sX11_partOf lX11_279 ⟨by decide, by decide⟩ (Nat.le_of_ble_eq_true rfl) (Nat.le_of_ble_eq_true rfl) rfl ?_
              rw [show nI 3 - nI 3 = nI 0 from by decide +kernel]
              refine pX11_partOf (tyv3 b hbN).2.2 (by omega) (ob3.1 b hbN) ?_
              intro _ _
              refine wp_ireturn dX11_opinion_136 rfl ?_
              exact hq _ _ _ n3 _ (f3r.up (by decide) (Nat.le_refl _)) tw_3 ⟨_, _, _, _, _, _, _, zg_3⟩ ⟨hn3, Or.inr ⟨p1, f1, by omega, by omega, ty3⟩⟩ (fun v9 h9 => (opn_2 hd (by omega) (by omega) ⟨by omega, by omega⟩ oc3 sg9 v9 h9).trans ((opn_p (vb := V3 b) (ob3.1 b hbN)).1))
            · refine wp_lookup (off := 51) (t := 109) dX11_opinion_58 (by decide +kernel) (by decide +kernel) (by decide +kernel) ?_
              refine wp_aload_n dX11_opinion_109 rfl rfl ?_
              refine wp_getR dX11_opinion_110 lX11_67 rfl e9_3.oo e9_3.r11 ?_
              refine wp_getR dX11_opinion_113 lX11_263 rfl zy3.o zy3.r3 ?_
              refine wp_iload dX11_opinion_116 rfl ?_
              refine wp_laldV dX11_opinion_118 zy3.a3 rfl ⟨by omega, by omega⟩ ((congrFun zy3.c3 _).trans (tyv3 b hbN).1.1) ?_
              refine wp_aload_n dX11_opinion_119 rfl rfl ?_
              refine wp_getR dX11_opinion_120 lX11_67 rfl e9_3.oo e9_3.r11 ?_
              refine wp_getR dX11_opinion_123 lX11_264 rfl zy3.o zy3.r4 ?_
              refine wp_iload dX11_opinion_126 rfl ?_
              refine wp_laldV dX11_opinion_128 zy3.a4 rfl ⟨by omega, by omega⟩ ((congrFun zy3.c4 _).trans (tyv3 b hbN).1.2) ?_
              refine wp_iconst (v := (nI 0)) dX11_opinion_129 (by decide +kernel) ?_
              refine wp_iload_n dX11_opinion_130 rfl rfl ?_
              refine wp_iconst (v := (nI 3)) dX11_opinion_131 (by decide +kernel) ?_
              refine wp_isub dX11_opinion_132 ?_
              refine wp_cS4 3 67 [some _, none, some _, none, some _, some _, none] dX11_opinion_133 tX11_partOf sX11_partOf lX11_279 ⟨by decide, by decide⟩ (Nat.le_of_ble_eq_true rfl) (Nat.le_of_ble_eq_true rfl) rfl ?_
              rw [show nI 4 - nI 3 = nI 1 from by decide +kernel]
              refine pX11_partOf (tyv3 b hbN).2.2 (by omega) (ob3.1 b hbN) ?_
              intro _ _
              refine wp_ireturn dX11_opinion_136 rfl ?_
              exact hq _ _ _ n3 _ (f3r.up (by decide) (Nat.le_refl _)) tw_3 ⟨_, _, _, _, _, _, _, zg_3⟩ ⟨hn3, Or.inr ⟨p1, f1, by omega, by omega, ty3⟩⟩ (fun v9 h9 => (opn_2 hd (by omega) (by omega) ⟨by omega, by omega⟩ oc3 sg9 v9 h9).trans ((opn_p (vb := V3 b) (ob3.1 b hbN)).2))
        · refine wp_aload_n dX11_opinion_30 rfl rfl ?_
          refine wp_getR dX11_opinion_31 lX11_67 rfl e9_3.oo e9_3.r11 ?_
          refine wp_getIV dX11_opinion_34 lX11_384 rfl zy3.o zy3.f2 ?_
          refine wp_ireturn dX11_opinion_37 rfl ?_
          have ej9 : j2 = 0 := by omega
          subst ej9
          exact hq _ _ _ n3 _ (f3r.up (by decide) (Nat.le_refl _)) tw_3 ⟨_, _, _, _, _, _, _, zg_3⟩ ⟨hn3, Or.inr ⟨p1, f1, by omega, by omega, ty3⟩⟩ (opn_0 hd (by omega) (by omega) oc3)
      · refine wp_iconst (v := (-1)) dX11_opinion_18 (by decide +kernel) ?_
        refine wp_ireturn dX11_opinion_19 rfl ?_
        exact hq _ _ 0 n _ cFr.rf tw ⟨_, _, _, _, _, _, _, zg⟩ ti (opn_no (Or.inr (ix_nle (by omega) c5)))
  · intro _ _
    refine wp_if_eq dX11_opinion_6 (fun _ => ?_) (fun q => absurd q (by decide +kernel))
    refine wp_iconst (v := (-1)) dX11_opinion_18 (by decide +kernel) ?_
    refine wp_ireturn dX11_opinion_19 rfl ?_
    exact hq _ _ 0 n _ cFr.rf tw ⟨_, _, _, _, _, _, _, zg⟩ ti (opn_no (Or.inl xn1))
