/-! ===== stale ===== -/
theorem itm_inj {c d : Nat} (hc : c < 256) (hd : d < 256) (h : itm c = itm d) : c = d := by
  cases c with
  | zero =>
    cases d with
    | zero => rfl
    | succ d => rw [itm_s] at h; exact absurd h.symm (nI_ne_m1 (by omega))
  | succ c =>
    cases d with
    | zero => rw [itm_s] at h; exact absurd h (nI_ne_m1 (by omega))
    | succ d =>
      rw [itm_s, itm_s] at h
      have := (nI_eq (by omega) (by omega)).mp h
      omega
theorem cod_inj {x y : Nat} (hx : cod x) (hy : cod y) (h : ∀ w, w < 4 → itm (kI x w) = itm (kI y w)) : x = y := by
  obtain ⟨a, b, c, d, ha, hb, hc, hd, e⟩ := hx
  obtain ⟨a', b', c', d', ha', hb', hc', hd', e'⟩ := hy
  have h1 := kN_it (show a < 256 by omega) (show b < 256 by omega) (show c < 256 by omega) (show d < 256 by omega)
  have h2 := kN_it (show a' < 256 by omega) (show b' < 256 by omega) (show c' < 256 by omega) (show d' < 256 by omega)
  subst e e'
  have e0 := itm_inj (kI_lt _ _) (kI_lt _ _) (h 0 (by decide))
  have e1 := itm_inj (kI_lt _ _) (kI_lt _ _) (h 1 (by decide))
  have e2 := itm_inj (kI_lt _ _) (kI_lt _ _) (h 2 (by decide))
  have e3 := itm_inj (kI_lt _ _) (kI_lt _ _) (h 3 (by decide))
  rw [h1.1, h2.1] at e0
  rw [h1.2.1, h2.2.1] at e1
  rw [h1.2.2.1, h2.2.2.1] at e2
  rw [h1.2.2.2, h2.2.2.2] at e3
  rw [e0, e1, e2, e3]
theorem shV_b {r : Nat → Int64} {F : Nat} {pa my : Nat → Int32} {f : Nat} (hd : sOK r F pa my) (hf : f < 4) (h : 0 < exE r f) : shV r f 0 ≤ 40 ∧ shV r f 1 ≤ 41 ∧ shV r f 2 < 8 ∧ shV r f 3 < 8 ∧ (∀ j, shV r f (4 + j) ≤ 3) ∧ ∀ j, shV r f 0 ≤ j → shV r f (4 + j) = 0 := by
  have e := shV_0 (r := r) (f := f)
  have e40 := shA_40 hd hf h
  have hb := shU_b (f := f) hd hf (Nat.le_refl (rP r))
  have h0 : ((ptU r f (rP r)).foldl (shF r) (40, 0, 0, 0)).1 ≤ 40 := (shA_le (ptU r f (rP r)) (40, 0, 0, 0)).1
  rw [← e40] at hb h0
  refine ⟨by omega, by omega, by omega, by omega, fun j => ?_, fun j hj => ?_⟩
  · by_cases c : j < shV r f 0
    · rw [shV_4 c]
      have := (kaA_bd (r := r) (k := j) (ptU r f (rP r) ++ ptI r f (rP r) 0) 0 (by decide)).1
      have : kaA r f j (rP r) 0 ≤ 4 := this
      omega
    · unfold shV
      rw [if_neg (by omega), if_neg (by omega), if_neg (by omega), if_neg (by omega), if_neg (by rw [show 4 + j - 4 = j by omega]; exact c)]
      omega
  · unfold shV
    rw [if_neg (by omega), if_neg (by omega), if_neg (by omega), if_neg (by omega), if_neg (by rw [show 4 + j - 4 = j by omega]; exact Nat.not_lt.mpr hj)]
theorem lN_inj {x y : Nat} (hx : x < 1099511627776) (hy : y < 1099511627776) (h : lN x = lN y) : x = y := by
  have e := congrArg Int64.toInt h
  rw [pf_lI (by omega), pf_lI (by omega)] at e
  omega
theorem sta_of {r : Nat → Int64} {f : Nat} {L : List Nat} (h0 : lrN r f = L.length) (h1 : ∀ k, k < L.length → ∀ w, w < 4 → itm (kI (L.getD k 0) w) = lrI r f k w) (h2 : lrS r f 0 = shV r f 0) (hs0 : shV r f 0 ≤ 40) (h3 : ∀ j, j < shV r f 0 → lrS r f (4 + j) = shV r f (4 + j)) (hz : ∀ j, j < 40 → lrS r f 0 ≤ j → lrS r f (4 + j) = 0) (hz2 : ∀ j, shV r f 0 ≤ j → shV r f (4 + j) = 0) (h4 : lrS r f 1 = shV r f 1) (h5 : lrS r f 2 = shV r f 2) (h6 : lrS r f 3 = shV r f 3) : staE r f L := by
  refine ⟨h0.symm, h1, fun w hw => ?_⟩
  rcases (by omega : w = 0 ∨ w = 1 ∨ w = 2 ∨ w = 3 ∨ 4 ≤ w) with e | e | e | e | e
  · subst e; exact h2.symm
  · subst e; exact h4.symm
  · subst e; exact h5.symm
  · subst e; exact h6.symm
  · obtain ⟨j, rfl⟩ : ∃ j, w = 4 + j := ⟨w - 4, by omega⟩
    by_cases c : j < shV r f 0
    · exact (h3 j c).symm
    · rw [hz2 j (by omega), hz j (by omega) (by omega)]
theorem stl_1 {r : Nat → Int64} {F : Nat} {pa my : Nat → Int32} {x : Int32} (h : ix x F = none) : ∀ v, spStale r F pa my x v → v = -1 := by
  intro v hv
  unfold spStale at hv
  rw [h] at hv; exact hv
theorem stl_2 {r : Nat → Int64} {F : Nat} {pa my : Nat → Int32} {f : Nat} (hd : sOK r F pa my) (hf : f < F) (h : r (655 + 70 * f) = 0 ∨ exE r f = 0) : ∀ v, spStale r F pa my (nI f) v → v = -1 := by
  have hF4 := hd.f4
  intro v hv
  unfold spStale at hv
  rw [ix_nI hf (by omega)] at hv
  have hv : if r (655 + 70 * f) = 0 ∨ exE r f = 0 then v = -1 else _ := hv
  rw [if_pos h] at hv
  exact hv
theorem stl_3 {r : Nat → Int64} {F : Nat} {pa my : Nat → Int32} {f hop : Nat} {L : List Nat} (hd : sOK r F pa my) (hf : f < F) (h1 : r (655 + 70 * f) = 1) (h2 : 0 < exE r f) (co : coP r pa my f (exE r f) L hop) : ∀ v, spStale r F pa my (nI f) v → (staE r f L ∧ v = nI 0) ∨ (¬ staE r f L ∧ v = nI 1) := by
  have hF4 := hd.f4
  intro v hv
  unfold spStale at hv
  rw [ix_nI hf (by omega)] at hv
  have hv : if r (655 + 70 * f) = 0 ∨ exE r f = 0 then v = -1 else ∃ L hop, coP r pa my f (exE r f) L hop ∧ ((staE r f L ∧ v = nI 0) ∨ (¬ staE r f L ∧ v = nI 1)) := hv
  rw [if_neg (fun z => z.elim (fun z => absurd (h1.symm.trans z) (by decide)) (fun z => by omega))] at hv
  obtain ⟨L', hop', h3, h4⟩ := hv
  obtain ⟨e1, e2⟩ := coP_un co h3
  subst e1 e2
  exact h4
set_option maxRecDepth 20000 in
theorem isLikeC_p {h : mH} {Q : Option Value → mH → Prop} {ow : Nat → Nat} {q a ρ f F : Nat} {r : Nat → Int64} {pa my : Nat → Int32} {L : List Nat} {nr mr : Nat → Int64} {np mp : Nat → Int32} (zn : zN ow h q 0 (lrN r f) (lrS r f 0) nr np (nI (lrS r f 0)) (nI (lrS r f 1)) (nI (lrS r f 2)) (nI (lrS r f 3))) (hnr : ∀ k, k < lrN r f → ∃ key, cod key ∧ nr k = lN key ∧ ∀ w, w < 4 → itm (kI key w) = lrI r f k w) (hnp : ∀ j, j < lrS r f 0 → np j = nI (lrS r f (4 + j))) (zm : zN ow h a ρ L.length (shV r f 0) mr mp (nI (shV r f 0)) (nI (shV r f 1)) (nI (shV r f 2)) (nI (shV r f 3))) (mnr : ∀ k, k < L.length → mr k = lN (L.getD k 0)) (mnp : ∀ j, j < shV r f 0 → mp j = nI (shV r f (4 + j))) (hd : sOK r F pa my) (hf : f < 4) (hL6 : L.length ≤ 6) (hcod : ∀ k, k < L.length → cod (L.getD k 0)) (hl0 : ∀ j, j < 40 → lrS r f 0 ≤ j → lrS r f (4 + j) = 0) (hsb : shV r f 0 ≤ 40 ∧ shV r f 1 ≤ 41 ∧ shV r f 2 < 8 ∧ shV r f 3 < 8 ∧ (∀ j, shV r f (4 + j) ≤ 3) ∧ ∀ j, shV r f 0 ≤ j → shV r f (4 + j) = 0) (ht : staE r f L → Q (some (.int (nI 1))) h) (hf9 : ¬ staE r f L → Q (some (.int (nI 0))) h) (hN9 : lrN r f = L.length) (hP9 : lrS r f 0 = shV r f 0) (hru : ∀ k, k < L.length → ∀ w, w < 4 → itm (kI (L.getD k 0) w) = lrI r f k w) : Wp mX4_isLike 0 0 65 [some (.ref q), some (.ref a), some (.int (nI 0))] [] h Q := by
  have hS0 := (hd.ls f 0 hf (by decide)).2
  have hS1 := (hd.ls f 1 hf (by decide)).2
  have hS2 := (hd.ls f 2 hf (by decide)).2
  have hS3 := (hd.ls f 3 hf (by decide)).2
  have hb4 := hsb.2.2.2.1
  have hb3 := hsb.2.2.1
  have hlp : ∀  (t9 : Nat) (k : Nat), (k ≤ lrS r f 0) → (∀ j, j < k → lrS r f (4 + j) = shV r f (4 + j)) → (lrS r f 0 < k + t9) → Wp mX4_isLike 0 0 65 [some (.ref q), some (.ref a), some (.int (nI k))] [] h Q := by
    intro t9
    induction t9 with
    | zero => intros; omega
    | succ t9 ih =>
      intro k hk hh hmz
      refine wp_iload_n dX4_isLike_65 rfl rfl ?_
      refine wp_aload_n dX4_isLike_66 rfl rfl ?_
      refine wp_getR dX4_isLike_67 lX4_59 rfl zn.o zn.r1 ?_
      refine wp_alen dX4_isLike_70 zn.a1 (by decide) (by decide) rfl ?_
      refine wp_icmp_geN dX4_isLike_71 rfl rfl ⟨by omega, by omega⟩ (fun c2 => ?_) (fun c2 => ?_)
      · refine wp_aload_n dX4_isLike_97 rfl rfl ?_
        refine wp_getIV dX4_isLike_98 lX4_9 rfl zn.o zn.f2 ?_
        refine wp_aload_n dX4_isLike_101 rfl rfl ?_
        refine wp_getIV dX4_isLike_102 lX4_9 rfl zm.o zm.f2 ?_
        refine wp_icmp_neN dX4_isLike_105 rfl rfl ⟨by omega, by omega⟩ (fun c3 => ?_) (fun c3 => ?_)
        · refine wp_iconst (v := (nI 0)) dX4_isLike_123 (by decide +kernel) ?_
          refine wp_istore_n (ls1 := [_, _, some _]) dX4_isLike_124 rfl (by decide) rfl ?_
          refine wp_iload_n dX4_isLike_125 rfl rfl ?_
          refine wp_if_eq dX4_isLike_126 (fun _ => ?_) (fun q => absurd q (by decide +kernel))
          refine wp_iconst (v := (nI 0)) dX4_isLike_155 (by decide +kernel) ?_
          refine wp_zreturn dX4_isLike_156 rfl (Or.inl rfl) ?_
          exact hf9 (fun z => by have := z.2.2 0 (by decide); have := z.2.2 1 (by decide); have := z.2.2 2 (by decide); have := z.2.2 3 (by decide); omega)
        · refine wp_aload_n dX4_isLike_108 rfl rfl ?_
          refine wp_getIV dX4_isLike_109 lX4_85 rfl zn.o zn.f3 ?_
          refine wp_aload_n dX4_isLike_112 rfl rfl ?_
          refine wp_getIV dX4_isLike_113 lX4_85 rfl zm.o zm.f3 ?_
          refine wp_icmp_neN dX4_isLike_116 rfl rfl ⟨by omega, by omega⟩ (fun c5 => ?_) (fun c5 => ?_)
          · refine wp_iconst (v := (nI 0)) dX4_isLike_123 (by decide +kernel) ?_
            refine wp_istore_n (ls1 := [_, _, some _]) dX4_isLike_124 rfl (by decide) rfl ?_
            refine wp_iload_n dX4_isLike_125 rfl rfl ?_
            refine wp_if_eq dX4_isLike_126 (fun _ => ?_) (fun q => absurd q (by decide +kernel))
            refine wp_iconst (v := (nI 0)) dX4_isLike_155 (by decide +kernel) ?_
            refine wp_zreturn dX4_isLike_156 rfl (Or.inl rfl) ?_
            exact hf9 (fun z => by have := z.2.2 0 (by decide); have := z.2.2 1 (by decide); have := z.2.2 2 (by decide); have := z.2.2 3 (by decide); omega)
          · refine wp_iconst (v := (nI 1)) dX4_isLike_119 (by decide +kernel) ?_
            refine wp_goto dX4_isLike_120 ?_
            refine wp_istore_n (ls1 := [_, _, some _]) dX4_isLike_124 rfl (by decide) rfl ?_
            refine wp_iload_n dX4_isLike_125 rfl rfl ?_
            refine wp_if_eq dX4_isLike_126 (fun q => absurd q (by decide +kernel)) (fun _ => ?_)
            refine wp_aload_n dX4_isLike_129 rfl rfl ?_
            refine wp_getIV dX4_isLike_130 lX4_88 rfl zn.o zn.f4 ?_
            refine wp_aload_n dX4_isLike_133 rfl rfl ?_
            refine wp_getIV dX4_isLike_134 lX4_88 rfl zm.o zm.f4 ?_
            refine wp_icmp_neN dX4_isLike_137 rfl rfl ⟨by omega, by omega⟩ (fun c8 => ?_) (fun c8 => ?_)
            · refine wp_iconst (v := (nI 0)) dX4_isLike_155 (by decide +kernel) ?_
              refine wp_zreturn dX4_isLike_156 rfl (Or.inl rfl) ?_
              exact hf9 (fun z => by have := z.2.2 0 (by decide); have := z.2.2 1 (by decide); have := z.2.2 2 (by decide); have := z.2.2 3 (by decide); omega)
            · refine wp_aload_n dX4_isLike_140 rfl rfl ?_
              refine wp_getIV dX4_isLike_141 lX4_97 rfl zn.o zn.f5 ?_
              refine wp_aload_n dX4_isLike_144 rfl rfl ?_
              refine wp_getIV dX4_isLike_145 lX4_97 rfl zm.o zm.f5 ?_
              refine wp_icmp_neN dX4_isLike_148 rfl rfl ⟨by omega, by omega⟩ (fun c9 => ?_) (fun c9 => ?_)
              · refine wp_iconst (v := (nI 0)) dX4_isLike_155 (by decide +kernel) ?_
                refine wp_zreturn dX4_isLike_156 rfl (Or.inl rfl) ?_
                exact hf9 (fun z => by have := z.2.2 0 (by decide); have := z.2.2 1 (by decide); have := z.2.2 2 (by decide); have := z.2.2 3 (by decide); omega)
              · refine wp_iconst (v := (nI 1)) dX4_isLike_151 (by decide +kernel) ?_
                refine wp_goto dX4_isLike_152 ?_
                refine wp_zreturn dX4_isLike_156 rfl (Or.inr rfl) ?_
                exact ht (sta_of (by omega) hru (by omega) (by omega) (fun j hj => hh j (by omega)) hl0 hsb.2.2.2.2.2 (by omega) (by omega) (by omega))
      · have hs3 := hsb.2.2.2.2.1 k
        have hl3 := (hd.ls f (4 + k) hf (by omega)).2
        refine wp_aload_n dX4_isLike_74 rfl rfl ?_
        refine wp_getR dX4_isLike_75 lX4_59 rfl zn.o zn.r1 ?_
        refine wp_iload_n dX4_isLike_78 rfl rfl ?_
        refine wp_ialdV dX4_isLike_79 zn.a1 rfl ⟨by omega, by omega⟩ ((congrFun zn.c1 _).trans (hnp k (by omega))) ?_
        refine wp_aload_n dX4_isLike_80 rfl rfl ?_
        refine wp_getR dX4_isLike_81 lX4_59 rfl zm.o zm.r1 ?_
        refine wp_iload_n dX4_isLike_84 rfl rfl ?_
        refine wp_ialdV dX4_isLike_85 zm.a1 rfl ⟨by omega, by omega⟩ ((congrFun zm.c1 _).trans (mnp k (by omega))) ?_
        refine wp_icmp_eqN dX4_isLike_86 rfl rfl ⟨by omega, by omega⟩ (fun c10 => ?_) (fun c10 => ?_)
        · refine wp_iinc1 (ls1 := [_, _, some _]) dX4_isLike_91 rfl (by decide) rfl ?_
          refine wp_goto dX4_isLike_94 ?_
          exact ih (k + 1) (by omega) (fun j hj => by
           by_cases e9 : j = k
           · subst e9; omega
           · exact hh j (by omega)) (by omega)
        · refine wp_iconst (v := (nI 0)) dX4_isLike_89 (by decide +kernel) ?_
          refine wp_zreturn dX4_isLike_90 rfl (Or.inl rfl) ?_
          exact hf9 (fun z => by have := z.2.2 (4 + k) (by omega); omega)
  exact hlp (lrS r f 0 + 1) 0 (Nat.zero_le _) (fun j hj => absurd hj (Nat.not_lt_zero j)) (by omega)
set_option maxRecDepth 20000 in
theorem isLikeC_r {h : mH} {Q : Option Value → mH → Prop} {ow : Nat → Nat} {q a ρ f F : Nat} {r : Nat → Int64} {pa my : Nat → Int32} {L : List Nat} {nr mr : Nat → Int64} {np mp : Nat → Int32} (zn : zN ow h q 0 (lrN r f) (lrS r f 0) nr np (nI (lrS r f 0)) (nI (lrS r f 1)) (nI (lrS r f 2)) (nI (lrS r f 3))) (hnr : ∀ k, k < lrN r f → ∃ key, cod key ∧ nr k = lN key ∧ ∀ w, w < 4 → itm (kI key w) = lrI r f k w) (hnp : ∀ j, j < lrS r f 0 → np j = nI (lrS r f (4 + j))) (zm : zN ow h a ρ L.length (shV r f 0) mr mp (nI (shV r f 0)) (nI (shV r f 1)) (nI (shV r f 2)) (nI (shV r f 3))) (mnr : ∀ k, k < L.length → mr k = lN (L.getD k 0)) (mnp : ∀ j, j < shV r f 0 → mp j = nI (shV r f (4 + j))) (hd : sOK r F pa my) (hf : f < 4) (hL6 : L.length ≤ 6) (hcod : ∀ k, k < L.length → cod (L.getD k 0)) (hl0 : ∀ j, j < 40 → lrS r f 0 ≤ j → lrS r f (4 + j) = 0) (hsb : shV r f 0 ≤ 40 ∧ shV r f 1 ≤ 41 ∧ shV r f 2 < 8 ∧ shV r f 3 < 8 ∧ (∀ j, shV r f (4 + j) ≤ 3) ∧ ∀ j, shV r f 0 ≤ j → shV r f (4 + j) = 0) (ht : staE r f L → Q (some (.int (nI 1))) h) (hf9 : ¬ staE r f L → Q (some (.int (nI 0))) h) (hN9 : lrN r f = L.length) (hP9 : lrS r f 0 = shV r f 0) : Wp mX4_isLike 0 0 30 [some (.ref q), some (.ref a), some (.int (nI 0))] [] h Q := by
  have hS0 := (hd.ls f 0 hf (by decide)).2
  have hS1 := (hd.ls f 1 hf (by decide)).2
  have hS2 := (hd.ls f 2 hf (by decide)).2
  have hS3 := (hd.ls f 3 hf (by decide)).2
  have hb4 := hsb.2.2.2.1
  have hb3 := hsb.2.2.1
  have hlp : ∀  (t9 : Nat) (k : Nat), (k ≤ lrN r f) → (∀ j, j < k → ∀ w, w < 4 → itm (kI (L.getD j 0) w) = lrI r f j w) → (lrN r f < k + t9) → Wp mX4_isLike 0 0 30 [some (.ref q), some (.ref a), some (.int (nI k))] [] h Q := by
    intro t9
    induction t9 with
    | zero => intros; omega
    | succ t9 ih =>
      intro k hk hh hmz
      refine wp_iload_n dX4_isLike_30 rfl rfl ?_
      refine wp_aload_n dX4_isLike_31 rfl rfl ?_
      refine wp_getR dX4_isLike_32 lX4_26 rfl zn.o zn.r0 ?_
      refine wp_alen dX4_isLike_35 zn.a0 (by decide) (by decide) rfl ?_
      refine wp_icmp_geN dX4_isLike_36 rfl rfl ⟨by omega, by omega⟩ (fun c2 => ?_) (fun c2 => ?_)
      · refine wp_iconst (v := (nI 0)) dX4_isLike_63 (by decide +kernel) ?_
        refine wp_istore_n (ls1 := [_, _, some _]) dX4_isLike_64 rfl (by decide) rfl ?_
        exact isLikeC_p zn hnr hnp zm mnr mnp hd hf hL6 hcod hl0 hsb ht hf9 hN9 hP9 (fun j hj => hh j (by omega))
      · obtain ⟨ky, hcd, ek, hit⟩ := hnr k (by omega)
        have hcl := hcod k (by omega)
        refine wp_aload_n dX4_isLike_39 rfl rfl ?_
        refine wp_getR dX4_isLike_40 lX4_26 rfl zn.o zn.r0 ?_
        refine wp_iload_n dX4_isLike_43 rfl rfl ?_
        refine wp_laldV dX4_isLike_44 zn.a0 rfl ⟨by omega, by omega⟩ ((congrFun zn.c0 _).trans ek) ?_
        refine wp_aload_n dX4_isLike_45 rfl rfl ?_
        refine wp_getR dX4_isLike_46 lX4_26 rfl zm.o zm.r0 ?_
        refine wp_iload_n dX4_isLike_49 rfl rfl ?_
        refine wp_laldV dX4_isLike_50 zm.a0 rfl ⟨by omega, by omega⟩ ((congrFun zm.c0 _).trans (mnr k (by omega))) ?_
        refine wp_lc_eq dX4_isLike_51 dX4_isLike_52 (fun c3 => ?_) (fun c3 => ?_)
        · refine wp_iinc1 (ls1 := [_, _, some _]) dX4_isLike_57 rfl (by decide) rfl ?_
          refine wp_goto dX4_isLike_60 ?_
          have ey9 := lN_inj (cod_lt hcd) (cod_lt hcl) (by assumption)
          exact ih (k + 1) (by omega) (fun j hj => by
           by_cases e9 : j = k
           · subst e9; rw [← ey9]; exact hit
           · exact hh j (by omega)) (by omega)
        · refine wp_iconst (v := (nI 0)) dX4_isLike_55 (by decide +kernel) ?_
          refine wp_zreturn dX4_isLike_56 rfl (Or.inl rfl) ?_
          exact hf9 (fun z => absurd (congrArg lN (cod_inj hcd hcl (fun w hw => (hit w hw).trans (z.2.1 k (by omega) w hw).symm))) (by assumption))
  exact hlp (lrN r f + 1) 0 (Nat.zero_le _) (fun j hj => absurd hj (Nat.not_lt_zero j)) (by omega)
set_option maxRecDepth 20000 in
theorem pX4_isLike0 {h : mH} {Q : Option Value → mH → Prop} {ow : Nat → Nat} {q a ρ f F : Nat} {r : Nat → Int64} {pa my : Nat → Int32} {L : List Nat} {nr mr : Nat → Int64} {np mp : Nat → Int32} (zn : zN ow h q 0 (lrN r f) (lrS r f 0) nr np (nI (lrS r f 0)) (nI (lrS r f 1)) (nI (lrS r f 2)) (nI (lrS r f 3))) (hnr : ∀ k, k < lrN r f → ∃ key, cod key ∧ nr k = lN key ∧ ∀ w, w < 4 → itm (kI key w) = lrI r f k w) (hnp : ∀ j, j < lrS r f 0 → np j = nI (lrS r f (4 + j))) (zm : zN ow h a ρ L.length (shV r f 0) mr mp (nI (shV r f 0)) (nI (shV r f 1)) (nI (shV r f 2)) (nI (shV r f 3))) (mnr : ∀ k, k < L.length → mr k = lN (L.getD k 0)) (mnp : ∀ j, j < shV r f 0 → mp j = nI (shV r f (4 + j))) (hd : sOK r F pa my) (hf : f < 4) (hL6 : L.length ≤ 6) (hcod : ∀ k, k < L.length → cod (L.getD k 0)) (hl0 : ∀ j, j < 40 → lrS r f 0 ≤ j → lrS r f (4 + j) = 0) (hsb : shV r f 0 ≤ 40 ∧ shV r f 1 ≤ 41 ∧ shV r f 2 < 8 ∧ shV r f 3 < 8 ∧ (∀ j, shV r f (4 + j) ≤ 3) ∧ ∀ j, shV r f 0 ≤ j → shV r f (4 + j) = 0) (ht : staE r f L → Q (some (.int (nI 1))) h) (hf9 : ¬ staE r f L → Q (some (.int (nI 0))) h) : Wp mX4_isLike 0 0 0 [some (.ref q), some (.ref a), none] [] h Q := by
  have hS0 := (hd.ls f 0 hf (by decide)).2
  have hS1 := (hd.ls f 1 hf (by decide)).2
  have hS2 := (hd.ls f 2 hf (by decide)).2
  have hS3 := (hd.ls f 3 hf (by decide)).2
  have hb4 := hsb.2.2.2.1
  have hb3 := hsb.2.2.1
  have hN6 := (hd.2.2.2.2.2.2.2.2.2.2.2.2.2.1 f hf).2
  refine wp_aload_n dX4_isLike_0 rfl rfl ?_
  refine wp_getR dX4_isLike_1 lX4_26 rfl zn.o zn.r0 ?_
  refine wp_alen dX4_isLike_4 zn.a0 (by decide) (by decide) rfl ?_
  refine wp_aload_n dX4_isLike_5 rfl rfl ?_
  refine wp_getR dX4_isLike_6 lX4_26 rfl zm.o zm.r0 ?_
  refine wp_alen dX4_isLike_9 zm.a0 (by decide) (by decide) rfl ?_
  refine wp_icmp_neN dX4_isLike_10 rfl rfl ⟨by omega, by omega⟩ (fun c1 => ?_) (fun c1 => ?_)
  · refine wp_iconst (v := (nI 0)) dX4_isLike_26 (by decide +kernel) ?_
    refine wp_zreturn dX4_isLike_27 rfl (Or.inl rfl) ?_
    exact hf9 (fun z => by have := z.1; have := z.2.2 0 (by decide); omega)
  · refine wp_aload_n dX4_isLike_13 rfl rfl ?_
    refine wp_getR dX4_isLike_14 lX4_59 rfl zn.o zn.r1 ?_
    refine wp_alen dX4_isLike_17 zn.a1 (by decide) (by decide) rfl ?_
    refine wp_aload_n dX4_isLike_18 rfl rfl ?_
    refine wp_getR dX4_isLike_19 lX4_59 rfl zm.o zm.r1 ?_
    refine wp_alen dX4_isLike_22 zm.a1 (by decide) (by decide) rfl ?_
    refine wp_icmp_eqN dX4_isLike_23 rfl rfl ⟨by omega, by omega⟩ (fun c2 => ?_) (fun c2 => ?_)
    · refine wp_iconst (v := (nI 0)) dX4_isLike_28 (by decide +kernel) ?_
      refine wp_istore_n (ls1 := [_, _, some _]) dX4_isLike_29 rfl (by decide) rfl ?_
      exact isLikeC_r zn hnr hnp zm mnr mnp hd hf hL6 hcod hl0 hsb ht hf9 (by omega) (by omega)
    · refine wp_iconst (v := (nI 0)) dX4_isLike_26 (by decide +kernel) ?_
      refine wp_zreturn dX4_isLike_27 rfl (Or.inl rfl) ?_
      exact hf9 (fun z => by have := z.1; have := z.2.2 0 (by decide); omega)
theorem isLikeC_go {h : mH} {Q : Option Value → mH → Prop} {ow : Nat → Nat} {q a ρ f F : Nat} {r : Nat → Int64} {pa my : Nat → Int32} {L : List Nat} (ln : lnR ow h q r f) (nn : lnN ow h a ρ r f L) (hd : sOK r F pa my) (hf : f < 4) (hL6 : L.length ≤ 6) (hcod : ∀ x ∈ L, cod x) (hl0 : ∀ j, j < 40 → lrS r f 0 ≤ j → lrS r f (4 + j) = 0) (hsb : shV r f 0 ≤ 40 ∧ shV r f 1 ≤ 41 ∧ shV r f 2 < 8 ∧ shV r f 3 < 8 ∧ (∀ j, shV r f (4 + j) ≤ 3) ∧ ∀ j, shV r f 0 ≤ j → shV r f (4 + j) = 0) (ht : staE r f L → Q (some (.int (nI 1))) h) (hf9 : ¬ staE r f L → Q (some (.int (nI 0))) h) : Wp mX4_isLike 0 0 0 [some (.ref q), some (.ref a), none] [] h Q := by
  obtain ⟨nr, np, zn, hnr, hnp⟩ := ln
  obtain ⟨mr, mp, zm, mnr, mnp⟩ := nn
  exact pX4_isLike0 zn hnr hnp zm mnr mnp hd hf hL6 (fun k hk => hcod _ (by rw [List.getD_eq_getElem?_getD, List.getElem?_eq_getElem hk]; exact List.getElem_mem hk)) hl0 hsb ht hf9
theorem sOK.l01 {r : Nat → Int64} {F : Nat} {pa my : Nat → Int32} (s : sOK r F pa my) : ∀ f, f < 4 → r (655 + 70 * f) = 0 ∨ r (655 + 70 * f) = 1 := s.2.2.2.2.2.2.2.2.2.2.2.2.1
set_option maxRecDepth 20000 in
theorem pX11_stale {h : mH} {Q : Option Value → mH → Prop} {ow : Nat → Nat} {F fa o1 d1 u1 : Nat} {pa my : Nat → Int32} {r : Nat → Int64} {pl : Nat → Int64} {gb ge : Int32} {gs gn : Int64} {gf gt : Int32} {e w : Nat} {v0 v1 v2 v3 v4 : Nat → Int32} {vc vk vh : Int32} {x : Int32} (e9 : eS ow h F pa my r fa o1 d1 u1) (hd : sOK r F pa my) (zg : zG ow h pl gb ge gs gn gf gt) (tw : tbW ow h r pa my F e w) (hw : w + 400 ≤ 8000000) (zv : zV ow h v0 v1 v2 v3 v4 vc vk vh) (hl0 : ∀ f, f < 4 → ∀ j, j < 40 → lrS r f 0 ≤ j → lrS r f (4 + j) = 0) (hq : ∀ h' ow' u v, cFr [1, 2, 11, 12, 13, 14, 18] u ow h ow' h' → tbW ow' h' r pa my F e (w + 100) → (∃ pl gb ge gs gn gf gt, zG ow' h' pl gb ge gs gn gf gt) → (∃ v0 v1 v2 v3 v4 vc vk vh, zV ow' h' v0 v1 v2 v3 v4 vc vk vh) → (∀ v', spStale r F pa my x v' → v' = v) → Q (some (.int v)) h') : Wp mX11_stale 8 208 0 [some (.ref 0), some (.int x), none, none] [] h Q := by
  have hP6 := hd.w.1.2
  have hF4 := hd.f4
  refine wp_aload_n dX11_stale_0 rfl rfl ?_
  refine wp_getR dX11_stale_1 lX11_20 rfl e9.oo e9.f4 ?_
  refine wp_iload_n dX11_stale_4 rfl rfl ?_
  refine wp_cV1 0 0 [some _, some _] dX11_stale_5 tX1_has rfl (by decide) nX1_has vX1_has lX11_139 ⟨by decide, by decide⟩ (Nat.le_of_ble_eq_true rfl) e9.fl.oo (Nat.le_of_ble_eq_true rfl) rfl ?_
  refine pX1_has e9.fl hF4 (fun f1 hf1 ef1 => ?_) (fun xn1 => ?_)
  · subst ef1
    intro _ _
    refine wp_if_ne dX11_stale_8 (fun _ => ?_) (fun q => absurd q (by decide +kernel))
    refine wp_aload_n dX11_stale_13 rfl rfl ?_
    refine wp_getR dX11_stale_14 lX11_34 rfl e9.oo e9.r6 ?_
    refine wp_cV0 2 43 [some _] dX11_stale_17 tX3_now rfl (by decide) nX3_now vX3_now lX11_101 ⟨by decide, by decide⟩ (Nat.le_of_ble_eq_true rfl) e9.hh.o (Nat.le_of_ble_eq_true rfl) rfl ?_
    refine pX3_now e9.hh e9.kb e9.od.1 e9.od.2 ?_
    intro _ _
    refine wp_astore_n (ls1 := [_, _, some _, _]) dX11_stale_20 rfl (by decide) rfl ?_
    refine wp_aload_n dX11_stale_21 rfl rfl ?_
    refine wp_getR dX11_stale_22 lX11_143 rfl e9.st.oo e9.st.r1 ?_
    refine wp_iload_n dX11_stale_25 rfl rfl ?_
    rcases e9.st.ln (f := f1) (by omega) with ⟨hl2, q2, eq2, ln2⟩ | ⟨hl2, eq2⟩
    · refine wp_aaldJ dX11_stale_26 e9.st.a1 (by decide) (by decide) rfl ⟨by omega, by omega⟩ eq2 ?_
      refine wp_astore_n (ls1 := [_, _, _, some _]) dX11_stale_27 rfl (by decide) rfl ?_
      refine wp_aload_n dX11_stale_28 rfl rfl ?_
      refine wp_ifnull dX11_stale_29 ?_
      refine wp_aload_n dX11_stale_32 rfl rfl ?_
      refine wp_iload_n dX11_stale_33 rfl rfl ?_
      refine wp_cV1 2 43 [some _, some _, none, none] dX11_stale_34 tX8_examplesOf rfl (by decide) nX8_examplesOf vX8_examplesOf lX11_154 ⟨by decide, by decide⟩ (Nat.le_of_ble_eq_true rfl) e9.st.oo (Nat.le_of_ble_eq_true rfl) rfl ?_
      refine pX8_examplesOf e9.st hd (by omega) ?_
      intro _ _
      refine wp_if_neN dX11_stale_37 rfl (by have := exE_lt (r := r) (f := f1) hd; omega) (fun c2 => ?_) (fun c2 => ?_)
      · refine wp_aload_n dX11_stale_42 rfl rfl ?_
        refine wp_aload_n dX11_stale_43 rfl rfl ?_
        refine wp_iload_n dX11_stale_44 rfl rfl ?_
        refine wp_cV1 7 185 [some _, some _, none, none] dX11_stale_45 tX11_whatIsLearntNow rfl (by decide) nX11_whatIsLearntNow vX11_whatIsLearntNow lX11_238 ⟨by decide, by decide⟩ (Nat.le_of_ble_eq_true rfl) e9.oo (Nat.le_of_ble_eq_true rfl) rfl ?_
        refine pX11_whatIsLearntNow e9 hd zg tw hw zv (by omega) (by omega) (fun hh3 ow3 uu3 a3 L3 hop3 f3 e9_3 tw_3 gg3 vv3 co3 hl3 hbn3 ln3 => ?_)
        intro _ _
        obtain ⟨_, _, _, _, _, _, _, zg_3⟩ := gg3
        obtain ⟨_, _, _, _, _, _, _, _, zv_3⟩ := vv3
        have ln2_3 := ln2.fr f3 (by decide)
        refine wp_cV1 0 0 [some _, some _, none] dX11_stale_48 tX4_isLike rfl (by decide) nX4_isLike vX4_isLike lX11_328 ⟨by decide, by decide⟩ (Nat.le_of_ble_eq_true rfl) ln2_3.oo (Nat.le_of_ble_eq_true rfl) rfl ?_
        refine isLikeC_go ln2_3 ln3 hd (by omega) hl3 (coP_cod hd (by omega) (fun p hp => exE_tb hp) co3) (hl0 f1 (by omega)) (shV_b hd (by omega) (by omega)) (fun sta9 => ?_) (fun sta9 => ?_)
        · intro _ _
          refine wp_if_eq dX11_stale_51 (fun q => absurd q (by decide +kernel)) (fun _ => ?_)
          refine wp_iconst (v := (nI 0)) dX11_stale_54 (by decide +kernel) ?_
          refine wp_goto dX11_stale_55 ?_
          refine wp_ireturn dX11_stale_59 rfl ?_
          exact hq _ _ _ _ (f3.up (by decide) (Nat.le_refl _)) tw_3 ⟨_, _, _, _, _, _, _, zg_3⟩ ⟨_, _, _, _, _, _, _, _, zv_3⟩ (fun v9 h9 => (stl_3 hd (by omega) hl2 (by omega) co3 v9 h9).elim (fun z => z.2) (fun z => absurd sta9 z.1))
        · intro _ _
          refine wp_if_eq dX11_stale_51 (fun _ => ?_) (fun q => absurd q (by decide +kernel))
          refine wp_iconst (v := (nI 1)) dX11_stale_58 (by decide +kernel) ?_
          refine wp_ireturn dX11_stale_59 rfl ?_
          exact hq _ _ _ _ (f3.up (by decide) (Nat.le_refl _)) tw_3 ⟨_, _, _, _, _, _, _, zg_3⟩ ⟨_, _, _, _, _, _, _, _, zv_3⟩ (fun v9 h9 => (stl_3 hd (by omega) hl2 (by omega) co3 v9 h9).elim (fun z => absurd z.1 sta9) (fun z => z.2))
      · refine wp_iconst (v := (-1)) dX11_stale_40 (by decide +kernel) ?_
        refine wp_ireturn dX11_stale_41 rfl ?_
        exact hq _ _ 0 _ cFr.rf (tw.up (by omega)) ⟨_, _, _, _, _, _, _, zg⟩ ⟨_, _, _, _, _, _, _, _, zv⟩ (stl_2 hd (by omega) (Or.inr (by omega)))
    · refine wp_aaldJ dX11_stale_26 e9.st.a1 (by decide) (by decide) rfl ⟨by omega, by omega⟩ eq2 ?_
      refine wp_astore_nN (ls1 := [_, _, _, some _]) dX11_stale_27 rfl (by decide) rfl ?_
      refine wp_aload_nN dX11_stale_28 rfl rfl ?_
      refine wp_ifnullN dX11_stale_29 ?_
      refine wp_iconst (v := (-1)) dX11_stale_40 (by decide +kernel) ?_
      refine wp_ireturn dX11_stale_41 rfl ?_
      exact hq _ _ 0 _ cFr.rf (tw.up (by omega)) ⟨_, _, _, _, _, _, _, zg⟩ ⟨_, _, _, _, _, _, _, _, zv⟩ (stl_2 hd (by omega) (Or.inl ((hd.l01 f1 (by omega)).resolve_right hl2)))
  · intro _ _
    refine wp_if_ne dX11_stale_8 (fun q => absurd q (by decide +kernel)) (fun _ => ?_)
    refine wp_iconst (v := (-1)) dX11_stale_11 (by decide +kernel) ?_
    refine wp_ireturn dX11_stale_12 rfl ?_
    exact hq _ _ 0 _ cFr.rf (tw.up (by omega)) ⟨_, _, _, _, _, _, _, zg⟩ ⟨_, _, _, _, _, _, _, _, zv⟩ (stl_1 xn1)
