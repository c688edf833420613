/-! ===== what is learnt, made ===== -/
theorem zK.j {ow : Nat → Nat} {h h' : mH} {a ρ n : Nat} {nf nm n1 n2 : Int32} (g : zK ow h a ρ nf nm n1 n2) (hz : hN h < scrA) (ha : hN h = a + 1) (q : rlc h h' a 0 15 n) : cFr [ρ] (n + 8) ow h (upN ow (a + 1) ρ) h' ∧ zJ (upN ow (a + 1) ρ) h' a ρ n (hL h' (a + 1)) nf nm n1 n2 := by
  have f1 := q.fr (ρ := ρ) g.w hz
  rw [ha] at f1
  refine ⟨f1, q.o g.o, (upN_ne (by omega)).trans g.w, by rw [q.Rk, ha], by rw [← ha]; exact q.2.2.1, upN_at _ _ _, rfl, ?_, ?_, ?_, ?_⟩
  · rw [q.2.2.2.2.1]; exact g.f2
  · rw [q.2.2.2.2.1]; exact g.f3
  · rw [q.2.2.2.2.1]; exact g.f4
  · rw [q.2.2.2.2.1]; exact g.f5
theorem zJ.n {ow : Nat → Nat} {h h' : mH} {a ρ n m : Nat} {nr : Nat → Int64} {nf nm n1 n2 : Int32} (g : zJ ow h a ρ n nr nf nm n1 n2) (hz : hN h < scrA) (ha : hN h = a + 2) (q : rlc h h' a 1 14 m) : cFr [ρ] (m + 8) ow h (upN ow (a + 2) ρ) h' ∧ zN (upN ow (a + 2) ρ) h' a ρ n m nr (hI h' (a + 2)) nf nm n1 n2 := by
  have f1 := q.fr (ρ := ρ) g.w hz
  rw [ha] at f1
  refine ⟨f1, q.o g.o, (upN_ne (by omega)).trans g.w, by rw [q.R (by decide)]; exact g.r0, q.a g.a0, (upN_ne (by omega)).trans g.v0, by rw [q.L (by omega) (by omega)]; exact g.c0, by rw [q.Rk, ha], by rw [← ha]; exact q.2.2.1, upN_at _ _ _, rfl, ?_, ?_, ?_, ?_⟩
  · rw [q.2.2.2.2.1]; exact g.f2
  · rw [q.2.2.2.2.1]; exact g.f3
  · rw [q.2.2.2.2.1]; exact g.f4
  · rw [q.2.2.2.2.1]; exact g.f5
theorem ptU_f {β : Type} {r : Nat → Int64} {f p : Nat} {g : β → Nat × Nat × Nat → β} {a : β} : (ptU r f (p + 1)).foldl g a = (ptI r f p (rM r f p)).foldl g ((ptU r f p).foldl g a) := by
  show (ptU r f p ++ ptI r f p (rM r f p)).foldl g a = _
  rw [List.foldl_append]
theorem ptU_len {r : Nat → Int64} {F : Nat} {pa my : Nat → Int32} {f p : Nat} (hd : sOK r F pa my) (hf : f < 4) (hp : p ≤ rP r) : ∀ x ∈ ptU r f p, x.2.2 - x.2.1 ≤ 40 := fun x hx => by
  obtain ⟨q, i, h1, h2, e⟩ := (pt_mem p).mp hx
  have := pt_len hd hf (p := q) (by omega) h2
  rw [e]
  show rB r f q i - rA r f q i ≤ 40
  omega
theorem shU_b {r : Nat → Int64} {F : Nat} {pa my : Nat → Int32} {f p : Nat} (hd : sOK r F pa my) (hf : f < 4) (hp : p ≤ rP r) : ((ptU r f p).foldl (shF r) (40, 0, 0, 0)).1 ≤ 41 ∧ ((ptU r f p).foldl (shF r) (40, 0, 0, 0)).2.1 ≤ 41 ∧ ((ptU r f p).foldl (shF r) (40, 0, 0, 0)).2.2.1 < 8 ∧ ((ptU r f p).foldl (shF r) (40, 0, 0, 0)).2.2.2 < 8 := shA_bd _ _ (by decide) (by decide) (by decide) (by decide) (fun x hx => by have := ptU_len hd hf hp x hx; omega)
theorem ptU_ne {r : Nat → Int64} {f : Nat} (h : 0 < exE r f) : ptU r f (rP r) ≠ [] := fun e => by
  obtain ⟨p, hp⟩ := Nat.exists_testBit_of_ne_zero (show exE r f ≠ 0 by omega)
  have h1 := exE_tb hp
  have : (p, rA r f p 0, rB r f p 0) ∈ ptU r f (rP r) := (pt_mem (rP r)).mpr ⟨p, 0, h1.1, h1.2, rfl⟩
  rw [e] at this
  cases this
theorem shA_40 {r : Nat → Int64} {F : Nat} {pa my : Nat → Int32} {f : Nat} (hd : sOK r F pa my) (hf : f < 4) (h : 0 < exE r f) : shA r f (rP r) 0 = (ptU r f (rP r)).foldl (shF r) (40, 0, 0, 0) := by
  unfold shA
  rw [show ptI r f (rP r) 0 = [] from rfl, List.append_nil]
  have hl := ptU_len hd hf (Nat.le_refl (rP r))
  cases e : ptU r f (rP r) with
  | nil => exact absurd e (ptU_ne h)
  | cons x t =>
    rw [e] at hl
    have := hl x List.mem_cons_self
    rw [List.foldl_cons, List.foldl_cons]
    congr 1
    unfold shF
    rw [show min (41, 0, 0, 0).1 (x.2.2 - x.2.1) = min (40, 0, 0, 0).1 (x.2.2 - x.2.1) from by show min 41 _ = min 40 _; omega]
theorem shV_0 {r : Nat → Int64} {f : Nat} : shV r f 0 = (shA r f (rP r) 0).1 ∧ shV r f 1 = (shA r f (rP r) 0).2.1 ∧ shV r f 2 = (shA r f (rP r) 0).2.2.1 ∧ shV r f 3 = (shA r f (rP r) 0).2.2.2 := ⟨rfl, rfl, rfl, rfl⟩
theorem shV_4 {r : Nat → Int64} {f j : Nat} (hj : j < shV r f 0) : shV r f (4 + j) = kaA r f j (rP r) 0 - 1 := by
  unfold shV
  rw [if_neg (by omega), if_neg (by omega), if_neg (by omega), if_neg (by omega), show 4 + j - 4 = j by omega, if_pos (show j < (shA r f (rP r) 0).1 from hj)]
theorem kaU {r : Nat → Int64} {f j : Nat} (h : 0 < exE r f) (hj : j < shV r f 0) : itm ((ptU r f (rP r)).foldl (kaF r j) 0) = nI (shV r f (4 + j)) := by
  rw [shV_4 hj]
  unfold kaA
  rw [show ptI r f (rP r) 0 = [] from rfl, List.append_nil]
  have := (kaA_bd (r := r) (k := j) (ptU r f (rP r)) 0 (by decide)).2 (Or.inr (ptU_ne h))
  exact if_neg this
/-- what is learnt, as it is made -/
def lnN (ow : Nat → Nat) (h : mH) (a ρ : Nat) (r : Nat → Int64) (f : Nat) (L : List Nat) : Prop := ∃ nr np, zN ow h a ρ L.length (shV r f 0) nr np (nI (shV r f 0)) (nI (shV r f 1)) (nI (shV r f 2)) (nI (shV r f 3)) ∧ (∀ k, k < L.length → nr k = lN (L.getD k 0)) ∧ ∀ j, j < shV r f 0 → np j = nI (shV r f (4 + j))
set_option maxRecDepth 20000 in
theorem initC_w {h : mH} {Q : Option Value → mH → Prop} {ow : Nat → Nat} {a ta sa ρs F f : Nat} {r : Nat → Int64} {pa my : Nat → Int32} {L : List Nat} {nr : Nat → Int64} {np : Nat → Int32} {l6 : Option Value} (s9 : stR ow h sa ρs r) (hd : sOK r F pa my) (hf : f < F) (hρs : 20 ≤ ρs) (zn : zN ow h a 18 L.length ((ptU r f (rP r)).foldl (shF r) (40, 0, 0, 0)).1 nr np (nI ((ptU r f (rP r)).foldl (shF r) (40, 0, 0, 0)).1) (nI ((ptU r f (rP r)).foldl (shF r) (40, 0, 0, 0)).2.1) (nI ((ptU r f (rP r)).foldl (shF r) (40, 0, 0, 0)).2.2.1) (nI ((ptU r f (rP r)).foldl (shF r) (40, 0, 0, 0)).2.2.2)) (hnp0 : ∀ k, k < ((ptU r f (rP r)).foldl (shF r) (40, 0, 0, 0)).1 → np k = -1) (hq : ∀ h' np', cFr [18] 0 ow h ow h' → zN ow h' a 18 L.length ((ptU r f (rP r)).foldl (shF r) (40, 0, 0, 0)).1 nr np' (nI ((ptU r f (rP r)).foldl (shF r) (40, 0, 0, 0)).1) (nI ((ptU r f (rP r)).foldl (shF r) (40, 0, 0, 0)).2.1) (nI ((ptU r f (rP r)).foldl (shF r) (40, 0, 0, 0)).2.2.1) (nI ((ptU r f (rP r)).foldl (shF r) (40, 0, 0, 0)).2.2.2) → (∀ k, k < ((ptU r f (rP r)).foldl (shF r) (40, 0, 0, 0)).1 → np' k = itm ((ptU r f (rP r)).foldl (kaF r k) 0)) → Q none h') : Wp mX4_init 4 96 138 [some (.ref a), some (.ref ta), some (.ref 109), some (.ref sa), some (.int (nI f)), some (.int (nI 0)), l6] [] h Q := by
  have hP6 := hd.w.1.2
  have hF4 := hd.f4
  have hsc : scrA = 1000000000 := rfl
  have hloop : ∀  (t9 : Nat) (p : Nat) (np1 : Nat → Int32) (h1 : mH), (p ≤ rP r) → (cFr [18] 0 ow h ow h1) → (zN ow h1 a 18 L.length ((ptU r f (rP r)).foldl (shF r) (40, 0, 0, 0)).1 nr np1 (nI ((ptU r f (rP r)).foldl (shF r) (40, 0, 0, 0)).1) (nI ((ptU r f (rP r)).foldl (shF r) (40, 0, 0, 0)).2.1) (nI ((ptU r f (rP r)).foldl (shF r) (40, 0, 0, 0)).2.2.1) (nI ((ptU r f (rP r)).foldl (shF r) (40, 0, 0, 0)).2.2.2)) → (stR ow h1 sa ρs r) → (∀ k, k < ((ptU r f (rP r)).foldl (shF r) (40, 0, 0, 0)).1 → np1 k = itm ((ptU r f p).foldl (kaF r k) 0)) → (rP r < p + t9) → Wp mX4_init 4 96 138 [some (.ref a), some (.ref ta), some (.ref 109), some (.ref sa), some (.int (nI f)), some (.int (nI p)), l6] [] h1 Q := by
    intro t9
    induction t9 with
    | zero => intros; omega
    | succ t9 ih =>
      intro p np1 h1 hp hf1 zn1 s1 hnp hmz
      refine wp_iload dX4_init_138 rfl ?_
      refine wp_aload_n dX4_init_140 rfl rfl ?_
      refine wp_getIV dX4_init_141 lX4_37 rfl s1.oo s1.f4 ?_
      refine wp_icmp_geN dX4_init_144 rfl rfl ⟨by omega, by omega⟩ (fun c2 => ?_) (fun c2 => ?_)
      · refine wp_vreturn dX4_init_175 rfl ?_
        have ep9 : p = rP r := by omega
        subst ep9
        exact hq _ _ hf1 zn1 hnp
      · refine wp_aload_n dX4_init_147 rfl rfl ?_
        refine wp_aload_n dX4_init_148 rfl rfl ?_
        refine wp_iload dX4_init_149 rfl ?_
        refine wp_cV1 0 0 [some _, some _] dX4_init_151 tX8_pageAt rfl (by decide) nX8_pageAt vX8_pageAt lX4_45 ⟨by decide, by decide⟩ (Nat.le_of_ble_eq_true rfl) s1.oo (Nat.le_of_ble_eq_true rfl) rfl ?_
        refine pX8_pageAt s1 hP6 (fun p1 q1 hp1 ep1 pg1 => ?_) (fun xn1 => absurd xn1 (by rw [ix_nI (by omega) (by omega)]; exact fun z => by cases z))
        have ep1 := (nI_eq (by omega) (by omega)).mp ep1
        subst ep1
        intro _ _
        refine wp_aload_n dX4_init_154 rfl rfl ?_
        refine wp_getR dX4_init_155 lX4_49 rfl s1.oo s1.r2 ?_
        refine wp_iload dX4_init_158 rfl ?_
        refine wp_iload dX4_init_160 rfl ?_
        refine wp_cSN2 0 0 [some _, some _] dX4_init_162 tX11_spotOf sX11_spotOf lX4_42 ⟨by decide, by decide⟩ (Nat.le_of_ble_eq_true rfl) (Nat.le_of_ble_eq_true rfl) rfl ?_
        refine pX11_spotOf ?_
        intro _ _
        refine wp_laldV dX4_init_165 s1.a2 rfl ⟨by omega, by omega⟩ (s1.c2 (by omega) (by omega)) ?_
        refine wp_cV2 3 67 [some _, some _, some _, none, none, none, none, none, none, none] dX4_init_166 tX4_weave rfl (by decide) nX4_weave vX4_weave lX4_68 ⟨by decide, by decide⟩ (Nat.le_of_ble_eq_true rfl) zn1.o (Nat.le_of_ble_eq_true rfl) rfl ?_
        refine pX4_weave (c0 := fun k => (ptU r f p).foldl (kaF r k) 0) zn1 hd (by omega) (by omega) pg1 (by decide) (fun k => (kaA_bd _ 0 (by decide)).1) (fun i hi => (shA_le (ptU r f (rP r)) (40, 0, 0, 0)).2 _ ((pt_mem (rP r)).mpr ⟨p, i, by omega, hi, rfl⟩)) hnp (fun hh2 np2 f2 zn1_2 hnp2 => ?_)
        intro _ _
        have s1_2 := s1.fr f2 (rnS (by omega) rn0) (rnS (by omega) rn0)
        refine wp_iinc1 (ls1 := [_, _, _, _, _, some _, _]) dX4_init_169 rfl (by decide) rfl ?_
        refine wp_goto dX4_init_172 ?_
        exact ih (p + 1) _ _ (by omega) ((hf1.up (by decide) (Nat.le_refl _)).tr (f2.up (by decide) (Nat.le_refl _))) zn1_2 s1_2 (fun k hk => by rw [ptU_f]; exact hnp2 k hk) (by omega)
  exact hloop (rP r + 1) 0 _ h (Nat.zero_le _) cFr.rf zn s9 (fun k hk => hnp0 k hk) (by omega)
set_option maxRecDepth 20000 in
theorem initC_m {h : mH} {Q : Option Value → mH → Prop} {ow : Nat → Nat} {a ta sa ρs F f : Nat} {r : Nat → Int64} {pa my : Nat → Int32} {L : List Nat} {nr : Nat → Int64} {l6 : Option Value} (s9 : stR ow h sa ρs r) (hd : sOK r F pa my) (hf : f < F) (hρs : 20 ≤ ρs) (zj : zJ ow h a 18 L.length nr (nI ((ptU r f 0).foldl (shF r) (40, 0, 0, 0)).1) (nI ((ptU r f 0).foldl (shF r) (40, 0, 0, 0)).2.1) (nI ((ptU r f 0).foldl (shF r) (40, 0, 0, 0)).2.2.1) (nI ((ptU r f 0).foldl (shF r) (40, 0, 0, 0)).2.2.2)) (hn : hN h = a + 2) (hz : hU h + 8 * hN h + 100 ≤ 8000000) (hq : ∀ h' ow' np', cFr [18] (0 + (((ptU r f (rP r)).foldl (shF r) (40, 0, 0, 0)).1 + 8) + 0 + 0) ow h ow' h' → zN ow' h' a 18 L.length ((ptU r f (rP r)).foldl (shF r) (40, 0, 0, 0)).1 nr np' (nI ((ptU r f (rP r)).foldl (shF r) (40, 0, 0, 0)).1) (nI ((ptU r f (rP r)).foldl (shF r) (40, 0, 0, 0)).2.1) (nI ((ptU r f (rP r)).foldl (shF r) (40, 0, 0, 0)).2.2.1) (nI ((ptU r f (rP r)).foldl (shF r) (40, 0, 0, 0)).2.2.2) → (∀ k, k < ((ptU r f (rP r)).foldl (shF r) (40, 0, 0, 0)).1 → np' k = itm ((ptU r f (rP r)).foldl (kaF r k) 0)) → Q none h') : Wp mX4_init 4 96 65 [some (.ref a), some (.ref ta), some (.ref 109), some (.ref sa), some (.int (nI f)), some (.int (nI 0)), l6] [] h Q := by
  have hP6 := hd.w.1.2
  have hF4 := hd.f4
  have hsc : scrA = 1000000000 := rfl
  have hloop : ∀  (t9 : Nat) (p : Nat) (l6 : Option Value) (h1 : mH), (p ≤ rP r) → (cFr [18] 0 ow h ow h1) → (zJ ow h1 a 18 L.length nr (nI ((ptU r f p).foldl (shF r) (40, 0, 0, 0)).1) (nI ((ptU r f p).foldl (shF r) (40, 0, 0, 0)).2.1) (nI ((ptU r f p).foldl (shF r) (40, 0, 0, 0)).2.2.1) (nI ((ptU r f p).foldl (shF r) (40, 0, 0, 0)).2.2.2)) → (stR ow h1 sa ρs r) → (hN h1 = a + 2) → (rP r < p + t9) → Wp mX4_init 4 96 65 [some (.ref a), some (.ref ta), some (.ref 109), some (.ref sa), some (.int (nI f)), some (.int (nI p)), l6] [] h1 Q := by
    intro t9
    induction t9 with
    | zero => intros; omega
    | succ t9 ih =>
      intro p l6 h1 hp hf1 zj1 s1 hn9 hmz
      refine wp_iload dX4_init_65 rfl ?_
      refine wp_aload_n dX4_init_67 rfl rfl ?_
      refine wp_getIV dX4_init_68 lX4_37 rfl s1.oo s1.f4 ?_
      refine wp_icmp_geN dX4_init_71 rfl rfl ⟨by omega, by omega⟩ (fun c2 => ?_) (fun c2 => ?_)
      · have ep9 : p = rP r := by omega
        subst ep9
        have hb9 := shU_b (f := f) hd (by omega) (Nat.le_refl (rP r))
        refine wp_aload_n dX4_init_113 rfl rfl ?_
        refine wp_iconst (v := (nI 0)) dX4_init_114 (by decide +kernel) ?_
        refine wp_aload_n dX4_init_115 rfl rfl ?_
        refine wp_getIV dX4_init_116 lX4_9 rfl zj1.o zj1.f2 ?_
        refine wp_cS2 0 0 [some _, some _] dX4_init_119 tJ9_max_7cf53 sJ9_max_7cf53 lX4_20 ⟨by decide, by decide⟩ (Nat.le_of_ble_eq_true rfl) (Nat.le_of_ble_eq_true rfl) rfl ?_
        refine pJ9_max_7cf53 (by omega) (by omega) ?_
        intro _ _
        rw [Nat.zero_max]
        refine wp_newI (N := ((ptU r f (rP r)).foldl (shF r) (40, 0, 0, 0)).1) dX4_init_122 wAc14 (nI_pos (by omega)) (nI_clamp (by omega)) (by omega) ?_
        refine wp_putR (v := some _) dX4_init_124 lX4_59 rfl (Or.inr ⟨rfl, rfl, rfl⟩) (hO_nw zj1.o) ?_
        have r1 := rlc_of (k := 1) zj1.o.1 (by omega) (nwC_nw (h := h1) (kd := 14) (n := ((ptU r f (rP r)).foldl (shF r) (40, 0, 0, 0)).1))
        obtain ⟨f1, zn_1⟩ := zj1.n (by omega) hn9 r1
        generalize sR (nw h1 14 ((ptU r f (rP r)).foldl (shF r) (40, 0, 0, 0)).1) a 1 (some (hN h1)) = hh1 at *
        have s1_1 := s1.fr f1 (rnS (by omega) rn0) (rnS (by omega) rn0)
        refine wp_aload_n dX4_init_127 rfl rfl ?_
        refine wp_getR dX4_init_128 lX4_59 rfl zn_1.o zn_1.r1 ?_
        refine wp_iconst (v := (-1)) dX4_init_131 (by decide +kernel) ?_
        refine wp_cS2 0 0 [some _, some _, none, none] dX4_init_132 tJ7_fill_53178 sJ7_fill_53178 lX4_62 ⟨by decide, by decide⟩ (Nat.le_of_ble_eq_true rfl) (Nat.le_of_ble_eq_true rfl) rfl ?_
        refine pJ7_fill_53178 zn_1.a1 (by omega) ?_
        intro _ _
        refine zn_1.z1 rfl (fun hh2 f2 zn_2 => ?_)
        have s1_2 := s1_1.fr f2 (rnS (by omega) rn0) (rnS (by omega) rn0)
        refine wp_iconst (v := (nI 0)) dX4_init_135 (by decide +kernel) ?_
        refine wp_istore (ls1 := [_, _, _, _, _, some _, _]) dX4_init_136 (by decide) rfl ?_
        refine initC_w (l6 := _) s1_2 hd hf hρs zn_2 (fun k hk => if_pos hk) (fun h9 np9 f9 zn9 hnp9 => ?_)
        exact hq _ _ _ (((hf1.tr f1).tr f2).tr f9) zn9 hnp9
      · refine wp_iload dX4_init_74 rfl ?_
        refine wp_iload dX4_init_76 rfl ?_
        refine wp_cSN2 0 0 [some _, some _] dX4_init_78 tX11_spotOf sX11_spotOf lX4_42 ⟨by decide, by decide⟩ (Nat.le_of_ble_eq_true rfl) (Nat.le_of_ble_eq_true rfl) rfl ?_
        refine pX11_spotOf ?_
        intro _ _
        refine wp_istore (ls1 := [_, _, _, _, _, _, some _]) dX4_init_81 (by decide) rfl ?_
        refine wp_aload_n dX4_init_83 rfl rfl ?_
        refine wp_aload_n dX4_init_84 rfl rfl ?_
        refine wp_iload dX4_init_85 rfl ?_
        refine wp_cV1 0 0 [some _, some _] dX4_init_87 tX8_pageAt rfl (by decide) nX8_pageAt vX8_pageAt lX4_45 ⟨by decide, by decide⟩ (Nat.le_of_ble_eq_true rfl) s1.oo (Nat.le_of_ble_eq_true rfl) rfl ?_
        refine pX8_pageAt s1 hP6 (fun p3 q3 hp3 ep3 pg3 => ?_) (fun xn3 => absurd xn3 (by rw [ix_nI (by omega) (by omega)]; exact fun z => by cases z))
        have ep3 := (nI_eq (by omega) (by omega)).mp ep3
        subst ep3
        intro _ _
        refine wp_aload_n dX4_init_90 rfl rfl ?_
        refine wp_getR dX4_init_91 lX4_49 rfl s1.oo s1.r2 ?_
        refine wp_iload dX4_init_94 rfl ?_
        refine wp_laldV dX4_init_96 s1.a2 rfl ⟨by omega, by omega⟩ (s1.c2 (by omega) (by omega)) ?_
        refine wp_aload_n dX4_init_97 rfl rfl ?_
        refine wp_getR dX4_init_98 lX4_52 rfl s1.oo s1.r3 ?_
        refine wp_iload dX4_init_101 rfl ?_
        refine wp_laldV dX4_init_103 s1.a3 rfl ⟨by omega, by omega⟩ (s1.c3 (by omega) (by omega)) ?_
        refine wp_cV3 3 67 [some _, some _, some _, none, some _, none, none, none, none, none] dX4_init_104 tX4_measure rfl (by decide) nX4_measure vX4_measure lX4_55 ⟨by decide, by decide⟩ (Nat.le_of_ble_eq_true rfl) zj1.o (Nat.le_of_ble_eq_true rfl) rfl ?_
        refine pX4_measure zj1 hd (by omega) (by omega) pg3 (by decide) (shU_b hd (by omega) (by omega)) (fun hh4 f4 zj1_4 => ?_)
        intro _ _
        have s1_4 := s1.fr f4 (rnS (by omega) rn0) (rnS (by omega) rn0)
        refine wp_iinc1 (ls1 := [_, _, _, _, _, some _, _]) dX4_init_107 rfl (by decide) rfl ?_
        refine wp_goto dX4_init_110 ?_
        exact ih (p + 1) _ _ (by omega) ((hf1.up (by decide) (Nat.le_refl _)).tr (f4.up (by decide) (Nat.le_refl _))) (by rw [ptU_f]; exact zj1_4) s1_4 (f4.1 |> fun z => by have := hn9; omega) (by omega)
  exact hloop (rP r + 1) 0 _ h (Nat.zero_le _) cFr.rf zj s9 hn (by omega)
set_option maxRecDepth 20000 in
theorem initC_r {h : mH} {Q : Option Value → mH → Prop} {ow : Nat → Nat} {a ta sa ρs F f : Nat} {r : Nat → Int64} {pa my : Nat → Int32} {L : List Nat} {nr : Nat → Int64} {ρ n m c a2 a3 a4 a5 a6 a7 : Nat} {tf tc tp vk vh : Int32} {t2 t6 t7 : Nat → Int64} {t3 t4 t5 w0 w1 w2 w3 w4 : Nat → Int32} {K : Nat → Nat} {l6 : Option Value} (s9 : stR ow h sa ρs r) (hd : sOK r F pa my) (hf : f < F) (hρs : 20 ≤ ρs) (zj : zJ ow h a 18 L.length nr (nI 40) (nI 0) (nI 0) (nI 0)) (hn : hN h = a + 2) (hL6 : L.length ≤ 6) (hρ : 11 ≤ ρ ∧ ρ < 18) (zt : zT ow h ta ρ n m a2 a3 a4 a5 a6 a7 tf tc t2 t3 t4 t5 t6 t7 tp) (hR : ∀ i, i < c → (t2 i = lN (K i) ∧ K i < 1099511627776) ∧ (i < n ∧ n ≤ 20480)) (zv : zV ow h w0 w1 w2 w3 w4 (nI L.length) vk vh) (hrw : rowP K c w4 L L.length) (K9 : ∀ h' nr', cFr [18] 0 ow h ow h' → zJ ow h' a 18 L.length nr' (nI 40) (nI 0) (nI 0) (nI 0) → stR ow h' sa ρs r → hN h' = a + 2 → (∀ k, k < L.length → nr' k = lN (L.getD k 0)) → Wp mX4_init 4 96 65 [some (.ref a), some (.ref ta), some (.ref 109), some (.ref sa), some (.int (nI f)), some (.int (nI 0)), l6] [] h' Q) : Wp mX4_init 4 96 27 [some (.ref a), some (.ref ta), some (.ref 109), some (.ref sa), some (.int (nI f)), some (.int (nI 0)), l6] [] h Q := by
  have hP6 := hd.w.1.2
  have hF4 := hd.f4
  have hsc : scrA = 1000000000 := rfl
  have hloop : ∀  (t9 : Nat) (i : Nat) (nr1 : Nat → Int64) (h1 : mH), (i ≤ L.length) → (cFr [18] 0 ow h ow h1) → (zJ ow h1 a 18 L.length nr1 (nI 40) (nI 0) (nI 0) (nI 0)) → (stR ow h1 sa ρs r) → (zT ow h1 ta ρ n m a2 a3 a4 a5 a6 a7 tf tc t2 t3 t4 t5 t6 t7 tp) → (zV ow h1 w0 w1 w2 w3 w4 (nI L.length) vk vh) → (hN h1 = a + 2) → (∀ k, k < i → nr1 k = lN (L.getD k 0)) → (L.length < i + t9) → Wp mX4_init 4 96 27 [some (.ref a), some (.ref ta), some (.ref 109), some (.ref sa), some (.int (nI f)), some (.int (nI i)), l6] [] h1 Q := by
    intro t9
    induction t9 with
    | zero => intros; omega
    | succ t9 ih =>
      intro i nr1 h1 hi hf1 zj1 s1 zt1 zv1 hn9 hnr hmz
      refine wp_iload dX4_init_27 rfl ?_
      refine wp_aload_n dX4_init_29 rfl rfl ?_
      refine wp_getR dX4_init_30 lX4_26 rfl zj1.o zj1.r0 ?_
      refine wp_alen dX4_init_33 zj1.a0 (by decide) (by decide) rfl ?_
      refine wp_icmp_geN dX4_init_34 rfl rfl ⟨by omega, by omega⟩ (fun c2 => ?_) (fun c2 => ?_)
      · refine wp_iconst (v := (nI 0)) dX4_init_62 (by decide +kernel) ?_
        refine wp_istore (ls1 := [_, _, _, _, _, some _, _]) dX4_init_63 (by decide) rfl ?_
        have ei9 : i = L.length := by omega
        subst ei9
        exact K9 _ _ hf1 zj1 s1 hn9 hnr
      · obtain ⟨y, hy, ey, eK⟩ := hrw i (by omega)
        have hRy := (hR y hy).2
        refine wp_aload_n dX4_init_37 rfl rfl ?_
        refine wp_getR dX4_init_38 lX4_26 rfl zj1.o zj1.r0 ?_
        refine wp_iload dX4_init_41 rfl ?_
        refine wp_aload_n dX4_init_43 rfl rfl ?_
        refine wp_getR dX4_init_44 lX4_30 rfl zt1.o zt1.r2 ?_
        refine wp_aload_n dX4_init_47 rfl rfl ?_
        refine wp_getR dX4_init_48 lX4_33 rfl zv1.o zv1.r4 ?_
        refine wp_iload dX4_init_51 rfl ?_
        refine wp_ialdV dX4_init_53 zv1.a4 rfl ⟨by omega, by omega⟩ ((congrFun zv1.c4 _).trans ey) ?_
        refine wp_laldV dX4_init_54 zt1.a2 rfl ⟨by omega, by omega⟩ ((congrFun zt1.c2 _).trans (hR y hy).1.1) ?_
        refine wp_lastN dX4_init_55 zj1.a0 rfl ⟨by omega, by omega⟩ ?_
        refine zj1.w0 (fun hh1 f1 zj1_1 => ?_)
        have s1_1 := s1.fr f1 (rnS (by omega) rn0) (rnS (by omega) rn0)
        have zt1_1 := zt1.fr f1 (rnS (by omega) rn0)
        have zv1_1 := zv1.fr f1 (rnS (by omega) rn0)
        refine wp_iinc1 (ls1 := [_, _, _, _, _, some _, _]) dX4_init_56 rfl (by decide) rfl ?_
        refine wp_goto dX4_init_59 ?_
        exact ih (i + 1) _ _ (by omega) ((hf1.up (by decide) (Nat.le_refl _)).tr (f1.up (by decide) (Nat.le_refl _))) zj1_1 s1_1 zt1_1 zv1_1 (by have := f1.1; omega) (fun k hk => by
          by_cases e9 : k = i
          · subst e9; rw [up1_at, eK]
          · rw [up1_ne e9]; exact hnr k (by omega)) (by omega)
  exact hloop (L.length + 1) 0 _ h (Nat.zero_le _) cFr.rf zj s9 zt zv hn (fun k hk => absurd hk (Nat.not_lt_zero k)) (by omega)
set_option maxRecDepth 20000 in
theorem pX4_init {h : mH} {Q : Option Value → mH → Prop} {ow : Nat → Nat} {a ta sa ρs F f : Nat} {r : Nat → Int64} {pa my : Nat → Int32} {L : List Nat} {ρ n m c hop : Nat} {tf : Int32} {K O : Nat → Nat} (s9 : stR ow h sa ρs r) (hd : sOK r F pa my) (hf : f < F) (hρs : 20 ≤ ρs) (zk : zK ow h a 18 (nI 0) (nI 0) (nI 0) (nI 0)) (hn : hN h = a + 1) (hz : hU h + 8 * hN h + 200 ≤ 8000000) (hne : 0 < exE r f) (sv : svR ow h c K L hop) (tb : tbR ow h ta ρ tf r pa my f n m c K O) (hρ : 11 ≤ ρ ∧ ρ < 18) (hq : ∀ h' ow', cFr [18] 63 ow h ow' h' → lnN ow' h' a 18 r f L → Q none h') : Wp mX4_init 4 96 0 [some (.ref a), some (.ref ta), some (.ref 109), some (.ref sa), some (.int (nI f)), none, none] [] h Q := by
  have hP6 := hd.w.1.2
  have hF4 := hd.f4
  have hsc : scrA = 1000000000 := rfl
  obtain ⟨w0, w1, w2, w3, w4, zv, hL6, hrw⟩ := sv
  obtain ⟨n9, m9, a2, a3, a4, a5, a6, a7, tf9, tc, t2, t3, t4, t5, t6, t7, tp, zt, rfl, hcn, hR⟩ := tb.V.1
  refine wp_aload_n dX4_init_0 rfl rfl ?_
  refine wp_objInit dX4_init_1 lX4_3 wOi wOc (Nat.le_of_ble_eq_true rfl) (by decide) ?_
  refine wp_aload_n dX4_init_4 rfl rfl ?_
  refine wp_bipush (v := (nI 40)) dX4_init_5 (by decide +kernel) ?_
  refine wp_putI dX4_init_7 lX4_9 rfl (Or.inl rfl) zk.o rfl rfl ?_
  refine zk.p2 (fun hh1 f1 zk_1 => ?_)
  have s9_1 := s9.fr f1 (rnS (by omega) rn0) (rnS (by omega) rn0)
  have zt_1 := zt.fr f1 (rnS (by omega) rn0)
  have zv_1 := zv.fr f1 (rnS (by omega) rn0)
  refine wp_aload_n dX4_init_10 rfl rfl ?_
  refine wp_iconst (v := (nI 0)) dX4_init_11 (by decide +kernel) ?_
  refine wp_aload_n dX4_init_12 rfl rfl ?_
  refine wp_getIV dX4_init_13 lX4_15 rfl zv_1.o zv_1.f5 ?_
  refine wp_cS2 0 0 [some _, some _] dX4_init_16 tJ9_max_7cf53 sJ9_max_7cf53 lX4_20 ⟨by decide, by decide⟩ (Nat.le_of_ble_eq_true rfl) (Nat.le_of_ble_eq_true rfl) rfl ?_
  refine pJ9_max_7cf53 (by omega) (by omega) ?_
  intro _ _
  rw [Nat.zero_max]
  refine wp_newL (N := L.length) dX4_init_19 wAc15 (nI_pos (by omega)) (nI_clamp (by omega)) (by omega) ?_
  refine wp_putR (v := some _) dX4_init_21 lX4_26 rfl (Or.inr ⟨rfl, rfl, rfl⟩) (hO_nw zk_1.o) ?_
  have hn2 : hN hh1 = a + 1 := by have := f1.1; omega
  have r2 := rlc_of (k := 0) zk_1.o.1 (by have := f1.1; omega) (nwC_nw (h := hh1) (kd := 15) (n := L.length))
  obtain ⟨f2, zj_2⟩ := zk_1.j (by have := f1.1; omega) hn2 r2
  have hn9 : hN (sR (nw hh1 15 L.length) a 0 (some (hN hh1))) = a + 2 := by have := r2.1; omega
  have hu9 := r2.2.1
  generalize sR (nw hh1 15 L.length) a 0 (some (hN hh1)) = hh2 at *
  have s9_2 := s9_1.fr f2 (rnS (by omega) rn0) (rnS (by omega) rn0)
  have zt_2 := zt_1.fr f2 (rnS (by omega) rn0)
  have zv_2 := zv_1.fr f2 (rnS (by omega) rn0)
  refine wp_iconst (v := (nI 0)) dX4_init_24 (by decide +kernel) ?_
  refine wp_istore (ls1 := [_, _, _, _, _, some _, _]) dX4_init_25 (by decide) rfl ?_
  refine initC_r s9_2 hd hf hρs zj_2 hn9 hL6.1 hρ zt_2 (fun i hi => ⟨(hR i hi).1, by omega, hcn.2⟩) zv_2 hrw (fun h8 nr8 f8 zj8 s8 hn8 hnr8 => ?_)
  refine initC_m s8 hd hf hρs zj8 hn8 (by have := f1.1; have := f2.1; have := f8.1; omega) (fun h9 ow9 np9 f9 zn9 hnp9 => ?_)
  have e40 := shA_40 (f := f) hd (by omega) hne
  have hb9 := shU_b (f := f) hd (by omega) (Nat.le_refl (rP r))
  refine hq _ _ ((((f1.tr f2).tr f8).tr f9).up (fun _ z => z) (by omega)) ⟨nr8, np9, ?_, hnr8, fun j hj => ?_⟩
  · have e0 := shV_0 (r := r) (f := f)
    rw [e40] at e0
    rw [e0.1, e0.2.1, e0.2.2.1, e0.2.2.2]
    exact zn9
  · have e0 := (shV_0 (r := r) (f := f)).1
    rw [e40] at e0
    rw [hnp9 j (by omega)]
    exact kaU hne hj
