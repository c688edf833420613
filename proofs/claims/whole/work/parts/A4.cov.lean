/-! ===== a table as the cover reads it ===== -/
def tbV (ow : Nat → Nat) (h : mH) (a ρ c : Nat) (K O Wr Rt : Nat → Nat) : Prop := ∃ n m a2 a3 a4 a5 a6 a7 tf tc t2 t3 t4 t5 t6 t7 tp, zT ow h a ρ n m a2 a3 a4 a5 a6 a7 tf tc t2 t3 t4 t5 t6 t7 tp ∧ tc = nI c ∧ (c ≤ n ∧ n ≤ 20480) ∧ ∀ i, i < c → (t2 i = lN (K i) ∧ K i < 1099511627776) ∧ (t3 i = nI (O i) ∧ O i < 64) ∧ (t4 i = nI (Rt i) ∧ Rt i < 64) ∧ t5 i = nI (Wr i) ∧ Wr i < 64
theorem tbV.fr {S : List Nat} {u9 : Nat} {ow ow' : Nat → Nat} {h h' : mH} {a ρ c : Nat} {K O Wr Rt : Nat → Nat} (g : tbV ow h a ρ c K O Wr Rt) (f9 : cFr S u9 ow h ow' h') (h1 : ρ ∉ S) : tbV ow' h' a ρ c K O Wr Rt := by
  obtain ⟨n, m, a2, a3, a4, a5, a6, a7, tf, tc, t2, t3, t4, t5, t6, t7, tp, z, hz⟩ := g
  exact ⟨n, m, a2, a3, a4, a5, a6, a7, tf, tc, t2, t3, t4, t5, t6, t7, tp, z.fr f9 h1, hz⟩
theorem tbV.o {ow : Nat → Nat} {h : mH} {a ρ c : Nat} {K O Wr Rt : Nat → Nat} (g : tbV ow h a ρ c K O Wr Rt) : hO h a 9 := by
  obtain ⟨n, m, a2, a3, a4, a5, a6, a7, tf, tc, t2, t3, t4, t5, t6, t7, tp, z, hz⟩ := g
  exact z.o
theorem tbV.c {ow : Nat → Nat} {h : mH} {a ρ c : Nat} {K O Wr Rt : Nat → Nat} (g : tbV ow h a ρ c K O Wr Rt) : c ≤ 20480 ∧ ∀ i, i < c → K i < 1099511627776 ∧ O i < 64 ∧ Rt i < 64 ∧ Wr i < 64 := by
  obtain ⟨n, m, a2, a3, a4, a5, a6, a7, tf, tc, t2, t3, t4, t5, t6, t7, tp, z, h1, h2, h3⟩ := g
  exact ⟨by omega, fun i hi => ⟨(h3 i hi).1.2, (h3 i hi).2.1.2, (h3 i hi).2.2.1.2, (h3 i hi).2.2.2.2⟩⟩
theorem tbR.V {ow : Nat → Nat} {h : mH} {a ρ : Nat} {tf : Int32} {r : Nat → Int64} {pa my : Nat → Int32} {f n m c : Nat} {K O : Nat → Nat} (g : tbR ow h a ρ tf r pa my f n m c K O) : tbV ow h a ρ c K O (fun i => tvm r pa my f (exE r f) 2 (K i) 6) (fun i => tvm r pa my f (exE r f) 1 (K i) 6) ∧ ruS r pa f c K O := by
  obtain ⟨a2, a3, a4, a5, a6, a7, tc, t2, t3, t4, t5, t6, t7, tp, z, hb, h1, h2, h3, h4⟩ := g
  exact ⟨⟨n, m, a2, a3, a4, a5, a6, a7, tf, tc, t2, t3, t4, t5, t6, t7, tp, z, h1, ⟨h2, hb.2.2⟩, fun i hi => ⟨(h3 i hi).1.1, (h3 i hi).1.2, ⟨(h3 i hi).2.1, tvm_lt 6 (by decide)⟩, (h3 i hi).2.2, tvm_lt 6 (by decide)⟩⟩, h4⟩
/-- the first rule of each set of pages -/
def fsG (O Wr : Nat → Nat) (s i : Nat) : Prop := O i &&& s ≠ 0 ∧ Wr i &&& s = 0
def fsP (O Wr Rt : Nat → Nat) (s c : Nat) (v0 : Nat → Int32) (g : Nat) : Prop := (g < 64 ∧ ∀ p, g.testBit p = true ↔ ∃ k, k < 64 ∧ v0 k ≠ -1 ∧ k.testBit p = true) ∧ ∀ k, k < 64 → (v0 k = -1 ∧ ∀ j, j < c → fsG O Wr s j → Rt j &&& s = k → k = 0) ∨ ∃ x, x < c ∧ v0 k = nI x ∧ fsG O Wr s x ∧ Rt x &&& s = k ∧ 0 < k ∧ ∀ j, j < c → fsG O Wr s j → Rt j &&& s = k → x ≤ j
theorem fs_0 {O Wr Rt : Nat → Nat} {s : Nat} {T : Nat → Int32} : fsP O Wr Rt s 0 (fiI T (-1) 64) 0 := by
  refine ⟨⟨by decide, fun p => ⟨fun z => ?_, ?_⟩⟩, fun k hk => Or.inl ⟨if_pos hk, fun j hj => absurd hj (Nat.not_lt_zero j)⟩⟩
  · rw [Nat.zero_testBit] at z; cases z
  · rintro ⟨k, h1, h2, h3⟩
    exact absurd (if_pos h1) h2
theorem fs_no {O Wr Rt : Nat → Nat} {s c g : Nat} {v0 : Nat → Int32} (q : fsP O Wr Rt s c v0 g) (hn : fsG O Wr s c → (Rt c &&& s) ≠ 0 → v0 (Rt c &&& s) ≠ -1) : fsP O Wr Rt s (c + 1) v0 g := by
  refine ⟨q.1, fun k hk => ?_⟩
  rcases q.2 k hk with ⟨h1, h2⟩ | ⟨x, h1, h2, h3, h4, h5, h6⟩
  · refine Or.inl ⟨h1, fun j hj hg e => ?_⟩
    by_cases e2 : j = c
    · subst e2
      by_cases z : k = 0
      · exact z
      · exact absurd h1 (e ▸ hn hg (by rw [e]; exact z))
    · exact h2 j (by omega) hg e
  · refine Or.inr ⟨x, by omega, h2, h3, h4, h5, fun j hj hg e => ?_⟩
    by_cases e2 : j = c
    · omega
    · exact h6 j (by omega) hg e
theorem fs_yes {O Wr Rt : Nat → Nat} {s c g : Nat} {v0 : Nat → Int32} (q : fsP O Wr Rt s c v0 g) (hc : c < 20480) (hs : s < 64) (hg : fsG O Wr s c) (h0 : (Rt c &&& s) ≠ 0) (hv : v0 (Rt c &&& s) = -1) : fsP O Wr Rt s (c + 1) (upI v0 (Rt c &&& s) (nI c)) (g ||| (Rt c &&& s)) := by
  have hl : (Rt c &&& s) < 64 := Nat.lt_of_le_of_lt Nat.and_le_right hs
  refine ⟨⟨Nat.or_lt_two_pow (n := 6) q.1.1 hl, fun p => ?_⟩, fun k hk => ?_⟩
  · rw [Nat.testBit_or, Bool.or_eq_true, q.1.2 p]
    constructor
    · rintro (⟨k, h1, h2, h3⟩ | h)
      · refine ⟨k, h1, ?_, h3⟩
        by_cases e : k = (Rt c &&& s)
        · rw [e, upI_at]; exact nI_ne_m1 (by omega)
        · rw [upI_ne e]; exact h2
      · exact ⟨_, hl, by rw [upI_at]; exact nI_ne_m1 (by omega), h⟩
    · rintro ⟨k, h1, h2, h3⟩
      by_cases e : k = (Rt c &&& s)
      · exact Or.inr (e ▸ h3)
      · rw [upI_ne e] at h2
        exact Or.inl ⟨k, h1, h2, h3⟩
  · by_cases e : k = (Rt c &&& s)
    · subst e
      refine Or.inr ⟨c, by omega, upI_at _ _ _, hg, rfl, by omega, fun j hj hg9 e9 => ?_⟩
      by_cases e2 : j = c
      · omega
      · rcases q.2 _ hk with ⟨h1, h2⟩ | ⟨x, h1, h2, _⟩
        · exact absurd (h2 j (by omega) hg9 e9) h0
        · rw [h2] at hv
          exact absurd hv (nI_ne_m1 (by omega))
    · rw [upI_ne e]
      rcases q.2 k hk with ⟨h1, h2⟩ | ⟨x, h1, h2, h3, h4, h5, h6⟩
      · refine Or.inl ⟨h1, fun j hj hg9 e9 => ?_⟩
        by_cases e2 : j = c
        · subst e2; exact absurd e9.symm e
        · exact h2 j (by omega) hg9 e9
      · refine Or.inr ⟨x, by omega, h2, h3, h4, h5, fun j hj hg9 e9 => ?_⟩
        by_cases e2 : j = c
        · subst e2; exact absurd e9.symm e
        · exact h6 j (by omega) hg9 e9
set_option maxRecDepth 20000 in
theorem pX0_findFirsts {h : mH} {Q : Option Value → mH → Prop} {ow : Nat → Nat} {v0 v1 v2 v3 v4 : Nat → Int32} {vc vk vh : Int32} {a ρ c : Nat} {K O Wr Rt : Nat → Nat} {s : Nat} (zv : zV ow h v0 v1 v2 v3 v4 vc vk vh) (tv : tbV ow h a ρ c K O Wr Rt) (hρ : 11 ≤ ρ) (hs : s < 64) (hq : ∀ h' w0 g, cFr [2] 0 ow h ow h' → zV ow h' w0 v1 v2 v3 v4 vc vk vh → fsP O Wr Rt s c w0 g → Q (some (.int (nI g))) h') : Wp mX0_findFirsts 1 23 0 [some (.ref 109), some (.ref a), some (.int (nI s)), none, none, none, none] [] h Q := by
  obtain ⟨n, m, a2, a3, a4, a5, a6, a7, tf, tc, t2, t3, t4, t5, t6, t7, tp, zt, rfl, hcn, hR⟩ := tv
  have hloop : ∀  (t9 : Nat) (i : Nat) (g : Nat) (w0 : Nat → Int32) (l5 : Option Value) (l6 : Option Value) (h1 : mH), (i ≤ c) → (cFr [2] 0 ow h ow h1) → (zV ow h1 w0 v1 v2 v3 v4 vc vk vh) → (zT ow h1 a ρ n m a2 a3 a4 a5 a6 a7 tf (nI c) t2 t3 t4 t5 t6 t7 tp) → (fsP O Wr Rt s i w0 g) → (c < i + t9) → Wp mX0_findFirsts 1 23 13 [some (.ref 109), some (.ref a), some (.int (nI s)), some (.int (nI g)), some (.int (nI i)), l5, l6] [] h1 Q := by
    intro t9
    induction t9 with
    | zero => intros; omega
    | succ t9 ih =>
      intro i g w0 l5 l6 h1 hi hf1 zv1 zt1 hfs hmz
      refine wp_iload dX0_findFirsts_13 rfl ?_
      refine wp_aload_n dX0_findFirsts_15 rfl rfl ?_
      refine wp_getIV dX0_findFirsts_16 lX0_51 rfl zt1.o zt1.f1 ?_
      refine wp_icmp_geN dX0_findFirsts_19 rfl rfl ⟨by omega, by omega⟩ (fun c2 => ?_) (fun c2 => ?_)
      · refine wp_iload_n dX0_findFirsts_105 rfl rfl ?_
        refine wp_ireturn dX0_findFirsts_106 rfl ?_
        have ei9 : i = c := by omega
        subst ei9
        exact hq _ _ _ hf1 zv1 hfs
      · have hO9 : O i &&& s < 64 := Nat.lt_of_le_of_lt Nat.and_le_right hs
        have hW9 : Wr i &&& s < 64 := Nat.lt_of_le_of_lt Nat.and_le_right hs
        have hR9 : Rt i &&& s < 64 := Nat.lt_of_le_of_lt Nat.and_le_right hs
        refine wp_aload_n dX0_findFirsts_22 rfl rfl ?_
        refine wp_getR dX0_findFirsts_23 lX0_54 rfl zt1.o zt1.r3 ?_
        refine wp_iload dX0_findFirsts_26 rfl ?_
        refine wp_ialdV dX0_findFirsts_28 zt1.a3 rfl ⟨by omega, by omega⟩ ((congrFun zt1.c3 _).trans (hR _ (by omega)).2.1.1) ?_
        refine wp_iload_n dX0_findFirsts_29 rfl rfl ?_
        refine wp_iand dX0_findFirsts_30 ?_
        rw [nx_and]
        refine wp_if_eqN dX0_findFirsts_31 rfl (by omega) (fun c3 => ?_) (fun c3 => ?_)
        · have hng : ¬ fsG O Wr s i := fun z => by have := z.1; have := z.2; omega
          refine wp_iconst (v := (nI 0)) dX0_findFirsts_50 (by decide +kernel) ?_
          refine wp_istore (ls1 := [_, _, _, _, _, some _, _]) dX0_findFirsts_51 (by decide) rfl ?_
          refine wp_aload_n dX0_findFirsts_53 rfl rfl ?_
          refine wp_getR dX0_findFirsts_54 lX0_60 rfl zt1.o zt1.r4 ?_
          refine wp_iload dX0_findFirsts_57 rfl ?_
          refine wp_ialdV dX0_findFirsts_59 zt1.a4 rfl ⟨by omega, by omega⟩ ((congrFun zt1.c4 _).trans (hR _ (by omega)).2.2.1.1) ?_
          refine wp_iload_n dX0_findFirsts_60 rfl rfl ?_
          refine wp_iand dX0_findFirsts_61 ?_
          rw [nx_and]
          refine wp_istore (ls1 := [_, _, _, _, _, _, some _]) dX0_findFirsts_62 (by decide) rfl ?_
          refine wp_iload dX0_findFirsts_64 rfl ?_
          refine wp_if_eq dX0_findFirsts_66 (fun _ => ?_) (fun q => absurd q (by decide +kernel))
          refine wp_iinc1 (ls1 := [_, _, _, _, some _, _, _]) dX0_findFirsts_99 rfl (by decide) rfl ?_
          refine wp_goto dX0_findFirsts_102 ?_
          exact ih (i + 1) _ _ _ _ _ (by omega) (hf1.up (by decide) (Nat.le_refl _)) zv1 zt1 (fs_no hfs (fun z => absurd z hng)) (by omega)
        · refine wp_aload_n dX0_findFirsts_34 rfl rfl ?_
          refine wp_getR dX0_findFirsts_35 lX0_57 rfl zt1.o zt1.r5 ?_
          refine wp_iload dX0_findFirsts_38 rfl ?_
          refine wp_ialdV dX0_findFirsts_40 zt1.a5 rfl ⟨by omega, by omega⟩ ((congrFun zt1.c5 _).trans (hR _ (by omega)).2.2.2.1) ?_
          refine wp_iload_n dX0_findFirsts_41 rfl rfl ?_
          refine wp_iand dX0_findFirsts_42 ?_
          rw [nx_and]
          refine wp_if_neN dX0_findFirsts_43 rfl (by omega) (fun c5 => ?_) (fun c5 => ?_)
          · have hng : ¬ fsG O Wr s i := fun z => by have := z.1; have := z.2; omega
            refine wp_iconst (v := (nI 0)) dX0_findFirsts_50 (by decide +kernel) ?_
            refine wp_istore (ls1 := [_, _, _, _, _, some _, _]) dX0_findFirsts_51 (by decide) rfl ?_
            refine wp_aload_n dX0_findFirsts_53 rfl rfl ?_
            refine wp_getR dX0_findFirsts_54 lX0_60 rfl zt1.o zt1.r4 ?_
            refine wp_iload dX0_findFirsts_57 rfl ?_
            refine wp_ialdV dX0_findFirsts_59 zt1.a4 rfl ⟨by omega, by omega⟩ ((congrFun zt1.c4 _).trans (hR _ (by omega)).2.2.1.1) ?_
            refine wp_iload_n dX0_findFirsts_60 rfl rfl ?_
            refine wp_iand dX0_findFirsts_61 ?_
            rw [nx_and]
            refine wp_istore (ls1 := [_, _, _, _, _, _, some _]) dX0_findFirsts_62 (by decide) rfl ?_
            refine wp_iload dX0_findFirsts_64 rfl ?_
            refine wp_if_eq dX0_findFirsts_66 (fun _ => ?_) (fun q => absurd q (by decide +kernel))
            refine wp_iinc1 (ls1 := [_, _, _, _, some _, _, _]) dX0_findFirsts_99 rfl (by decide) rfl ?_
            refine wp_goto dX0_findFirsts_102 ?_
            exact ih (i + 1) _ _ _ _ _ (by omega) (hf1.up (by decide) (Nat.le_refl _)) zv1 zt1 (fs_no hfs (fun z => absurd z hng)) (by omega)
          · have hgd : fsG O Wr s i := ⟨by omega, by omega⟩
            refine wp_iconst (v := (nI 1)) dX0_findFirsts_46 (by decide +kernel) ?_
            refine wp_goto dX0_findFirsts_47 ?_
            refine wp_istore (ls1 := [_, _, _, _, _, some _, _]) dX0_findFirsts_51 (by decide) rfl ?_
            refine wp_aload_n dX0_findFirsts_53 rfl rfl ?_
            refine wp_getR dX0_findFirsts_54 lX0_60 rfl zt1.o zt1.r4 ?_
            refine wp_iload dX0_findFirsts_57 rfl ?_
            refine wp_ialdV dX0_findFirsts_59 zt1.a4 rfl ⟨by omega, by omega⟩ ((congrFun zt1.c4 _).trans (hR _ (by omega)).2.2.1.1) ?_
            refine wp_iload_n dX0_findFirsts_60 rfl rfl ?_
            refine wp_iand dX0_findFirsts_61 ?_
            rw [nx_and]
            refine wp_istore (ls1 := [_, _, _, _, _, _, some _]) dX0_findFirsts_62 (by decide) rfl ?_
            refine wp_iload dX0_findFirsts_64 rfl ?_
            refine wp_if_eq dX0_findFirsts_66 (fun q => absurd q (by decide +kernel)) (fun _ => ?_)
            refine wp_iload dX0_findFirsts_69 rfl ?_
            refine wp_if_eqN dX0_findFirsts_71 rfl (by omega) (fun c8 => ?_) (fun c8 => ?_)
            · refine wp_iinc1 (ls1 := [_, _, _, _, some _, _, _]) dX0_findFirsts_99 rfl (by decide) rfl ?_
              refine wp_goto dX0_findFirsts_102 ?_
              exact ih (i + 1) _ _ _ _ _ (by omega) (hf1.up (by decide) (Nat.le_refl _)) zv1 zt1 (fs_no hfs (fun _ h0 => by first | exact absurd (by assumption) h0 | assumption)) (by omega)
            · refine wp_aload_n dX0_findFirsts_74 rfl rfl ?_
              refine wp_getR dX0_findFirsts_75 lX0_9 rfl zv1.o zv1.r0 ?_
              refine wp_iload dX0_findFirsts_78 rfl ?_
              refine wp_ialdV dX0_findFirsts_80 zv1.a0 rfl ⟨by omega, by omega⟩ (congrFun zv1.c0 _) ?_
              refine wp_iconst (v := (-1)) dX0_findFirsts_81 (by decide +kernel) ?_
              refine wp_icmp_ne dX0_findFirsts_82 (fun c9 => ?_) (fun c9 => ?_)
              · refine wp_iinc1 (ls1 := [_, _, _, _, some _, _, _]) dX0_findFirsts_99 rfl (by decide) rfl ?_
                refine wp_goto dX0_findFirsts_102 ?_
                exact ih (i + 1) _ _ _ _ _ (by omega) (hf1.up (by decide) (Nat.le_refl _)) zv1 zt1 (fs_no hfs (fun _ h0 => by first | exact absurd (by assumption) h0 | assumption)) (by omega)
              · refine wp_aload_n dX0_findFirsts_85 rfl rfl ?_
                refine wp_getR dX0_findFirsts_86 lX0_9 rfl zv1.o zv1.r0 ?_
                refine wp_iload dX0_findFirsts_89 rfl ?_
                refine wp_iload dX0_findFirsts_91 rfl ?_
                refine wp_iastN dX0_findFirsts_93 zv1.a0 rfl ⟨by omega, by omega⟩ ?_
                refine zv1.w0 (fun hh1 f1 zv1_1 => ?_)
                have zt1_1 := zt1.fr f1 (rnS (by omega) rn0)
                refine wp_iload_n dX0_findFirsts_94 rfl rfl ?_
                refine wp_iload dX0_findFirsts_95 rfl ?_
                refine wp_ior dX0_findFirsts_97 ?_
                rw [nx_or]
                refine wp_istore_n (ls1 := [_, _, _, some _, _, _, _]) dX0_findFirsts_98 rfl (by decide) rfl ?_
                refine wp_iinc1 (ls1 := [_, _, _, _, some _, _, _]) dX0_findFirsts_99 rfl (by decide) rfl ?_
                refine wp_goto dX0_findFirsts_102 ?_
                exact ih (i + 1) _ _ _ _ _ (by omega) ((hf1.up (by decide) (Nat.le_refl _)).tr (f1.up (by decide) (Nat.le_refl _))) zv1_1 zt1_1 (fs_yes hfs (by omega) hs hgd (by omega) (by assumption)) (by omega)
  refine wp_aload_n dX0_findFirsts_0 rfl rfl ?_
  refine wp_getR dX0_findFirsts_1 lX0_9 rfl zv.o zv.r0 ?_
  refine wp_iconst (v := (-1)) dX0_findFirsts_4 (by decide +kernel) ?_
  refine wp_cS2 0 0 [some _, some _, none, none] dX0_findFirsts_5 tJ7_fill_53178 sJ7_fill_53178 lX0_45 ⟨by decide, by decide⟩ (Nat.le_of_ble_eq_true rfl) (Nat.le_of_ble_eq_true rfl) rfl ?_
  refine pJ7_fill_53178 zv.a0 (by decide) ?_
  intro _ _
  refine zv.z0 rfl (fun hh1 f1 zv_1 => ?_)
  have zt_1 := zt.fr f1 (rnS (by omega) rn0)
  refine wp_iconst (v := (nI 0)) dX0_findFirsts_8 (by decide +kernel) ?_
  refine wp_istore_n (ls1 := [_, _, _, some _, _, _, _]) dX0_findFirsts_9 rfl (by decide) rfl ?_
  refine wp_iconst (v := (nI 0)) dX0_findFirsts_10 (by decide +kernel) ?_
  refine wp_istore (ls1 := [_, _, _, _, some _, _, _]) dX0_findFirsts_11 (by decide) rfl ?_
  exact hloop (c + 1) 0 0 _ _ _ _ (Nat.zero_le _) (f1.up (by decide) (Nat.le_refl _)) zv_1 zt_1 fs_0 (by omega)
set_option maxRecDepth 20000 in
theorem pX0_isBetter {h : mH} {Q : Option Value → mH → Prop} {ow : Nat → Nat} {v0 v1 v2 v3 v4 : Nat → Int32} {vc vk vh : Int32} {s z y x A C p I0 : Nat} (zv : zV ow h v0 v1 v2 v3 v4 vc vk vh) (hs : s < 64) (hb : z < 65536 ∧ y < 65536 ∧ x < 65536) (hA : v2 s = nI A ∧ A < 65536) (hB : z = A → (v3 s = nI C ∧ C < 65536) ∧ (v1 s = nI p ∧ p < 64) ∧ v0 p = nI I0 ∧ I0 < 65536) (ht : (z < A ∨ (z = A ∧ (y < C ∨ (y = C ∧ x < I0)))) → Q (some (.int (nI 1))) h) (hf : ¬ (z < A ∨ (z = A ∧ (y < C ∨ (y = C ∧ x < I0)))) → Q (some (.int (nI 0))) h) : Wp mX0_isBetter 0 0 0 [some (.ref 109), some (.int (nI s)), some (.int (nI z)), some (.int (nI y)), some (.int (nI x))] [] h Q := by
  refine wp_iload_n dX0_isBetter_0 rfl rfl ?_
  refine wp_aload_n dX0_isBetter_1 rfl rfl ?_
  refine wp_getR dX0_isBetter_2 lX0_18 rfl zv.o zv.r2 ?_
  refine wp_iload_n dX0_isBetter_5 rfl rfl ?_
  refine wp_ialdV dX0_isBetter_6 zv.a2 rfl ⟨by omega, by omega⟩ ((congrFun zv.c2 _).trans hA.1) ?_
  refine wp_icmp_eqN dX0_isBetter_7 rfl rfl ⟨by omega, by omega⟩ (fun c1 => ?_) (fun c1 => ?_)
  · refine wp_iload_n dX0_isBetter_26 rfl rfl ?_
    refine wp_aload_n dX0_isBetter_27 rfl rfl ?_
    refine wp_getR dX0_isBetter_28 lX0_21 rfl zv.o zv.r3 ?_
    refine wp_iload_n dX0_isBetter_31 rfl rfl ?_
    refine wp_ialdV dX0_isBetter_32 zv.a3 rfl ⟨by omega, by omega⟩ ((congrFun zv.c3 _).trans (hB (by omega)).1.1) ?_
    refine wp_icmp_eqN dX0_isBetter_33 rfl rfl (by have := hB (by omega); exact ⟨by omega, by omega⟩) (fun c2 => ?_) (fun c2 => ?_)
    · refine wp_iload dX0_isBetter_52 rfl ?_
      refine wp_aload_n dX0_isBetter_54 rfl rfl ?_
      refine wp_getR dX0_isBetter_55 lX0_9 rfl zv.o zv.r0 ?_
      refine wp_aload_n dX0_isBetter_58 rfl rfl ?_
      refine wp_getR dX0_isBetter_59 lX0_15 rfl zv.o zv.r1 ?_
      refine wp_iload_n dX0_isBetter_62 rfl rfl ?_
      refine wp_ialdV dX0_isBetter_63 zv.a1 rfl ⟨by omega, by omega⟩ ((congrFun zv.c1 _).trans (hB (by omega)).2.1.1) ?_
      refine wp_ialdV dX0_isBetter_64 zv.a0 rfl (by have := hB (by omega); exact ⟨by omega, by omega⟩) ((congrFun zv.c0 _).trans (hB (by omega)).2.2.1) ?_
      refine wp_icmp_geN dX0_isBetter_65 rfl rfl (by have := hB (by omega); exact ⟨by omega, by omega⟩) (fun c4 => ?_) (fun c4 => ?_)
      · refine wp_iconst (v := (nI 0)) dX0_isBetter_72 (by decide +kernel) ?_
        refine wp_zreturn dX0_isBetter_73 rfl (Or.inl rfl) ?_
        exact hf (by omega)
      · refine wp_iconst (v := (nI 1)) dX0_isBetter_68 (by decide +kernel) ?_
        refine wp_goto dX0_isBetter_69 ?_
        refine wp_zreturn dX0_isBetter_73 rfl (Or.inr rfl) ?_
        exact ht (by omega)
    · refine wp_iload_n dX0_isBetter_36 rfl rfl ?_
      refine wp_aload_n dX0_isBetter_37 rfl rfl ?_
      refine wp_getR dX0_isBetter_38 lX0_21 rfl zv.o zv.r3 ?_
      refine wp_iload_n dX0_isBetter_41 rfl rfl ?_
      refine wp_ialdV dX0_isBetter_42 zv.a3 rfl ⟨by omega, by omega⟩ ((congrFun zv.c3 _).trans (hB (by omega)).1.1) ?_
      refine wp_icmp_geN dX0_isBetter_43 rfl rfl (by have := hB (by omega); exact ⟨by omega, by omega⟩) (fun c6 => ?_) (fun c6 => ?_)
      · refine wp_iconst (v := (nI 0)) dX0_isBetter_50 (by decide +kernel) ?_
        refine wp_zreturn dX0_isBetter_51 rfl (Or.inl rfl) ?_
        exact hf (by omega)
      · refine wp_iconst (v := (nI 1)) dX0_isBetter_46 (by decide +kernel) ?_
        refine wp_goto dX0_isBetter_47 ?_
        refine wp_zreturn dX0_isBetter_51 rfl (Or.inr rfl) ?_
        exact ht (by omega)
  · refine wp_iload_n dX0_isBetter_10 rfl rfl ?_
    refine wp_aload_n dX0_isBetter_11 rfl rfl ?_
    refine wp_getR dX0_isBetter_12 lX0_18 rfl zv.o zv.r2 ?_
    refine wp_iload_n dX0_isBetter_15 rfl rfl ?_
    refine wp_ialdV dX0_isBetter_16 zv.a2 rfl ⟨by omega, by omega⟩ ((congrFun zv.c2 _).trans hA.1) ?_
    refine wp_icmp_geN dX0_isBetter_17 rfl rfl ⟨by omega, by omega⟩ (fun c8 => ?_) (fun c8 => ?_)
    · refine wp_iconst (v := (nI 0)) dX0_isBetter_24 (by decide +kernel) ?_
      refine wp_zreturn dX0_isBetter_25 rfl (Or.inl rfl) ?_
      exact hf (by omega)
    · refine wp_iconst (v := (nI 1)) dX0_isBetter_20 (by decide +kernel) ?_
      refine wp_goto dX0_isBetter_21 ?_
      refine wp_zreturn dX0_isBetter_25 rfl (Or.inr rfl) ?_
      exact ht (by omega)
/-- the best keys, by the first rules -/
def bO (K : Nat → Nat) (v0 : Nat → Int32) (k : Nat) : Option Nat := if k < 64 ∧ v0 k ≠ -1 then some (K (v0 k).toInt.toNat) else none
theorem nI_tn {x : Nat} (h : x < 2147483648) : (nI x).toInt.toNat = x := by
  rw [nI_toInt h]; rfl
theorem fs_x {O Wr Rt K : Nat → Nat} {s c g : Nat} {v0 : Nat → Int32} (q : fsP O Wr Rt s c v0 g) (hc : c ≤ 20480) {k : Nat} (hk : k < 64) (h : v0 k ≠ -1) : ∃ x, x < c ∧ v0 k = nI x ∧ bO K v0 k = some (K x) ∧ 0 < k := by
  rcases q.2 k hk with ⟨h1, _⟩ | ⟨x, h1, h2, h3, h4, h5, h6⟩
  · exact absurd h1 h
  · refine ⟨x, h1, h2, ?_, h5⟩
    unfold bO
    rw [if_pos ⟨hk, h⟩, h2, nI_tn (by omega)]
theorem bO_n {K : Nat → Nat} {v0 : Nat → Int32} {k : Nat} (h : v0 k = -1) : bO K v0 k = none := if_neg (fun z => z.2 h)
theorem bO_ne {K : Nat → Nat} {v0 : Nat → Int32} {k : Nat} {key : Nat} (h : bO K v0 k = some key) : k < 64 ∧ v0 k ≠ -1 := by
  unfold bO at h
  by_cases z : k < 64 ∧ v0 k ≠ -1
  · exact z
  · rw [if_neg z] at h; cases h
theorem tb_pw {k l : Nat} (hk : k < 64) (hl : l < 6) : k.testBit l = true ↔ 0 < k &&& 2 ^ l := by
  have : ∀ k : Fin 64, ∀ l : Fin 6, k.val.testBit l.val = true ↔ 0 < k.val &&& 2 ^ l.val := by decide +kernel
  exact this ⟨k, hk⟩ ⟨l, hl⟩
theorem lb_lo {s : Nat} (hs : s < 64) (h0 : 0 < s) : nI s &&& (-(nI s)) = nI (2 ^ lb s) ∧ lb s < 6 ∧ s.testBit (lb s) = true := by
  have : ∀ s : Fin 64, 0 < s.val → nI s.val &&& (-(nI s.val)) = nI (2 ^ lb s.val) ∧ lb s.val < 6 ∧ s.val.testBit (lb s.val) = true := by decide +kernel
  exact this ⟨s, hs⟩ h0
theorem pcb_lt {s k l : Nat} (hs : s < 64) (hk : k < 64) (hl : l < 6) (h1 : s.testBit l = true) (h2 : k.testBit l = true) : s &&& (63 - k) < s ∧ pcb (s &&& (63 - k)) < pcb s := by
  have hb : ∀ p, (s &&& (63 - k)).testBit p = true → s.testBit p = true := fun p h => by
    rw [Nat.testBit_and, Bool.and_eq_true] at h; exact h.1
  have hn : (s &&& (63 - k)).testBit l = false := by
    rw [Nat.testBit_and, tb_not hk, h2]; simp
  constructor
  · rcases Nat.lt_or_eq_of_le (Nat.and_le_left : s &&& (63 - k) ≤ s) with h | h
    · exact h
    · rw [h, h1] at hn; cases hn
  · exact cntB_lt (q := l) 6 (fun p _ h => hb p h) hl h1 hn
theorem pcb_le (s : Nat) : pcb s ≤ 6 := cntB_le 6
theorem sub_and {s k g : Nat} (hs : s &&& (63 - g) = 0) : (s &&& (63 - k)) &&& (63 - g) = 0 := by
  rw [Nat.and_assoc, Nat.and_comm (63 - k), ← Nat.and_assoc, hs, Nat.zero_and]
/-- what stands in the rows for a set -/
def cuP (a b p : Int32) (N : Nat) : Option (Nat × Nat × Nat) → Prop
  | none => a = nI 7
  | some d => (a = nI d.1 ∧ b = nI d.2.1 ∧ p = nI d.2.2) ∧ d.1 ≤ N ∧ d.2.1 ≤ 256 * N
def dpC (v2 v3 : Nat → Int32) (M : Nat → Nat × Nat × Nat) (g s : Nat) : Prop := M 0 = (0, 0, 0) ∧ ∀ d, 0 < d → d < s → d &&& (63 - g) = 0 → (v2 d = nI (M d).1 ∧ v3 d = nI (M d).2.1) ∧ (M d).1 ≤ pcb d ∧ (M d).2.1 ≤ 256 * pcb d
theorem cu_no {a b p : Int32} {N : Nat} {B : Nat → Option Nat} {rest : Nat → Nat × Nat × Nat} {l k : Nat} (h : cuP a b p N (cvG B rest l k)) (h1 : B k = none ∨ k.testBit l = false) : cuP a b p N (cvG B rest l (k + 1)) := by
  rw [cvG_no h1]; exact h
theorem cu_yes {N : Nat} {B : Nat → Option Nat} {rest : Nat → Nat × Nat × Nat} {l k key : Nat} (hB : B k = some key) (hl : k.testBit l = true) (hN : N ≤ 6) (hr : (rest k).1 + 1 ≤ N ∧ (rest k).2.1 + 256 ≤ 256 * N) (hk : key < 1099511627776) (h9 : btr B (cvC (rest k) k key) key (cvG B rest l k) = true) : cuP (nI (1 + (rest k).1)) (nI (key / 4294967296 + (rest k).2.1)) (nI k) N (cvG B rest l (k + 1)) := by
  rw [cvG_s hB hl, if_pos h9]
  exact ⟨⟨rfl, rfl, rfl⟩, by show 1 + (rest k).1 ≤ N; omega, by show key / 4294967296 + (rest k).2.1 ≤ 256 * N; omega⟩
theorem cu_ke {a b p : Int32} {N : Nat} {B : Nat → Option Nat} {rest : Nat → Nat × Nat × Nat} {l k key : Nat} (h : cuP a b p N (cvG B rest l k)) (hB : B k = some key) (hl : k.testBit l = true) (h9 : ¬ btr B (cvC (rest k) k key) key (cvG B rest l k) = true) : cuP a b p N (cvG B rest l (k + 1)) := by
  rw [cvG_s hB hl, if_neg h9]; exact h
/-- what isBetter reads -/
theorem cu_rd {a b p : Int32} {N c x k : Nat} {K : Nat → Nat} {v0 : Nat → Int32} {O Wr Rt : Nat → Nat} {s9 g : Nat} {rest : Nat → Nat × Nat × Nat} {l : Nat} (h : cuP a b p N (cvG (bO K v0) rest l k)) (hN : N ≤ 6) (hfs : fsP O Wr Rt s9 c v0 g) (hc : c ≤ 20480) (hK : ∀ i j, i < j → j < c → K i < K j) (hk : k ≤ 64) (hx : x < c) (hr : (rest k).1 + 1 ≤ N) : ∃ A C q I0, (a = nI A ∧ A < 65536) ∧ (1 + (rest k).1 = A → (b = nI C ∧ C < 65536) ∧ (p = nI q ∧ q < 64) ∧ v0 q = nI I0 ∧ I0 < 65536) ∧ (btr (bO K v0) (cvC (rest k) k (K x)) (K x) (cvG (bO K v0) rest l k) = true ↔ (1 + (rest k).1 < A ∨ (1 + (rest k).1 = A ∧ (K x / 4294967296 + (rest k).2.1 < C ∨ (K x / 4294967296 + (rest k).2.1 = C ∧ x < I0))))) := by
  cases e : cvG (bO K v0) rest l k with
  | none =>
    rw [e] at h
    refine ⟨7, 0, 0, 0, ⟨h, by decide⟩, fun z => by omega, ⟨fun _ => by omega, fun _ => rfl⟩⟩
  | some d =>
    rw [e] at h
    obtain ⟨⟨h1, h2, h3⟩, h4, h5⟩ := h
    obtain ⟨m1, m2, k2, m3⟩ := cvG_mem k d e
    have h6 := bO_ne m3
    obtain ⟨y, hy, ey, eB, _⟩ := fs_x (K := K) hfs hc h6.1 h6.2
    refine ⟨d.1, d.2.1, d.2.2, y, ⟨h1, by omega⟩, fun _ => ⟨⟨h2, by omega⟩, ⟨h3, h6.1⟩, ey, by omega⟩, ?_⟩
    have hlt : K x < K y ↔ x < y := by
      constructor
      · intro z
        rcases Nat.lt_trichotomy x y with w | w | w
        · exact w
        · subst w; omega
        · have := hK y x w hx; omega
      · intro z; exact hK x y z hy
    show (if 1 + (rest k).1 ≠ d.1 then decide (1 + (rest k).1 < d.1) else if K x / 4294967296 + (rest k).2.1 ≠ d.2.1 then decide (K x / 4294967296 + (rest k).2.1 < d.2.1) else decide (K x < ((bO K v0) d.2.2).getD 0)) = true ↔ _
    rw [eB]
    show (if 1 + (rest k).1 ≠ d.1 then decide (1 + (rest k).1 < d.1) else if K x / 4294967296 + (rest k).2.1 ≠ d.2.1 then decide (K x / 4294967296 + (rest k).2.1 < d.2.1) else decide (K x < K y)) = true ↔ _
    by_cases z1 : 1 + (rest k).1 = d.1
    · rw [if_neg (fun z => z z1)]
      by_cases z2 : K x / 4294967296 + (rest k).2.1 = d.2.1
      · rw [if_neg (fun z => z z2), decide_eq_true_iff, hlt]
        omega
      · rw [if_pos z2, decide_eq_true_iff]
        omega
    · rw [if_pos z1, decide_eq_true_iff]
      omega
set_option maxRecDepth 20000 in
theorem pX0_pickFor {h : mH} {Q : Option Value → mH → Prop} {ow : Nat → Nat} {v0 v1 v2 v3 v4 : Nat → Int32} {vc vk vh : Int32} {a ρ c : Nat} {K O Wr Rt : Nat → Nat} {s9 s g : Nat} {M : Nat → Nat × Nat × Nat} (zv : zV ow h v0 v1 v2 v3 v4 vc vk vh) (tv : tbV ow h a ρ c K O Wr Rt) (hρ : 11 ≤ ρ) (hs : s < 64) (hs0 : 0 < s) (hfs : fsP O Wr Rt s9 c v0 g) (hK : ∀ i j, i < j → j < c → K i < K j) (hsub : s &&& (63 - g) = 0) (hdp : dpC v2 v3 M g s) (hq : ∀ h' w1 w2 w3, cFr [2] 0 ow h ow h' → zV ow h' v0 w1 w2 w3 v4 vc vk vh → (∀ d, d ≠ s → w1 d = v1 d ∧ w2 d = v2 d ∧ w3 d = v3 d) → cuP (w2 s) (w3 s) (w1 s) (pcb s) (cvG (bO K v0) (fun k => M (s &&& (63 - k))) (lb s) 64) → Q none h') : Wp mX0_pickFor 1 24 0 [some (.ref 109), some (.ref a), some (.int (nI s)), none, none, none, none, none] [] h Q := by
  obtain ⟨n, m, a2, a3, a4, a5, a6, a7, tf, tc, t2, t3, t4, t5, t6, t7, tp, zt, rfl, hcn, hR⟩ := tv
  obtain ⟨hlo, hl6, hlb⟩ := lb_lo hs hs0
  have hloop : ∀  (t9 : Nat) (k : Nat) (w1 : Nat → Int32) (w2 : Nat → Int32) (w3 : Nat → Int32) (l5 : Option Value) (l6 : Option Value) (l7 : Option Value) (h1 : mH), (1 ≤ k ∧ k ≤ 64) → (cFr [2] 0 ow h ow h1) → (zV ow h1 v0 w1 w2 w3 v4 vc vk vh) → (zT ow h1 a ρ n m a2 a3 a4 a5 a6 a7 tf (nI c) t2 t3 t4 t5 t6 t7 tp) → (∀ d, d ≠ s → w1 d = v1 d ∧ w2 d = v2 d ∧ w3 d = v3 d) → (cuP (w2 s) (w3 s) (w1 s) (pcb s) (cvG (bO K v0) (fun k => M (s &&& (63 - k))) (lb s) k)) → (64 < k + t9) → Wp mX0_pickFor 1 24 16 [some (.ref 109), some (.ref a), some (.int (nI s)), some (.int (nI (2 ^ lb s))), some (.int (nI k)), l5, l6, l7] [] h1 Q := by
    intro t9
    induction t9 with
    | zero => intros; omega
    | succ t9 ih =>
      intro k w1 w2 w3 l5 l6 l7 h1 hk hf1 zv1 zt1 hs2 hcu hmz
      refine wp_iload dX0_pickFor_16 rfl ?_
      refine wp_bipush (v := (nI 64)) dX0_pickFor_18 (by decide +kernel) ?_
      refine wp_icmp_geN dX0_pickFor_20 rfl rfl ⟨by omega, by omega⟩ (fun c2 => ?_) (fun c2 => ?_)
      · refine wp_vreturn dX0_pickFor_152 rfl ?_
        have ei9 : k = 64 := by omega
        subst ei9
        exact hq _ _ _ _ hf1 zv1 hs2 hcu
      · refine wp_iload dX0_pickFor_23 rfl ?_
        refine wp_iload_n dX0_pickFor_25 rfl rfl ?_
        refine wp_iand dX0_pickFor_26 ?_
        rw [nx_and]
        refine wp_if_eqN dX0_pickFor_27 rfl (Nat.lt_of_le_of_lt Nat.and_le_left (by omega)) (fun c3 => ?_) (fun c3 => ?_)
        · refine wp_iinc1 (ls1 := [_, _, _, _, some _, _, _, _]) dX0_pickFor_146 rfl (by decide) rfl ?_
          refine wp_goto dX0_pickFor_149 ?_
          have hkb : k.testBit (lb s) = false := Bool.eq_false_iff.mpr (fun z => by have := (tb_pw (by omega) hl6).mp z; omega)
          exact ih (k + 1) _ _ _ _ _ _ _ (by omega) (hf1.up (by decide) (Nat.le_refl _)) zv1 zt1 hs2 (cu_no hcu (Or.inr hkb)) (by omega)
        · refine wp_aload_n dX0_pickFor_30 rfl rfl ?_
          refine wp_getR dX0_pickFor_31 lX0_9 rfl zv1.o zv1.r0 ?_
          refine wp_iload dX0_pickFor_34 rfl ?_
          refine wp_ialdV dX0_pickFor_36 zv1.a0 rfl ⟨by omega, by omega⟩ (congrFun zv1.c0 _) ?_
          refine wp_iconst (v := (-1)) dX0_pickFor_37 (by decide +kernel) ?_
          refine wp_icmp_eq dX0_pickFor_38 (fun c4 => ?_) (fun c4 => ?_)
          · refine wp_iinc1 (ls1 := [_, _, _, _, some _, _, _, _]) dX0_pickFor_146 rfl (by decide) rfl ?_
            refine wp_goto dX0_pickFor_149 ?_
            exact ih (k + 1) _ _ _ _ _ _ _ (by omega) (hf1.up (by decide) (Nat.le_refl _)) zv1 zt1 hs2 (cu_no hcu (Or.inl (bO_n (by assumption)))) (by omega)
          · obtain ⟨x, hx, ek, eB, hk0⟩ := fs_x (K := K) hfs (by omega) (by omega) (by assumption)
            have hkb := (tb_pw (by omega) hl6).mpr (by assumption)
            obtain ⟨hlt, hpc⟩ := pcb_lt hs (by omega) hl6 hlb hkb
            have hsg := sub_and (k := k) hsub
            have hKx := (hR x hx).1.2
            have hpc6 := pcb_le s
            refine wp_iload_n dX0_pickFor_41 rfl rfl ?_
            refine wp_iload dX0_pickFor_42 rfl ?_
            refine wp_iconst (v := (-1)) dX0_pickFor_44 (by decide +kernel) ?_
            refine wp_ixor dX0_pickFor_45 ?_
            refine wp_iand dX0_pickFor_46 ?_
            rw [nx_not (by omega) hs]
            refine wp_istore (ls1 := [_, _, _, _, _, some _, _, _]) dX0_pickFor_47 (by decide) rfl ?_
            refine wp_iconst (v := (nI 1)) dX0_pickFor_49 (by decide +kernel) ?_
            refine wp_iload dX0_pickFor_50 rfl ?_
            refine wp_if_neN dX0_pickFor_52 rfl (by omega) (fun c5 => ?_) (fun c5 => ?_)
            · have hdr := hdp.2 _ (by omega) hlt hsg
              have hrb : (M (s &&& (63 - k))).1 + 1 ≤ pcb s ∧ (M (s &&& (63 - k))).2.1 + 256 ≤ 256 * pcb s := by omega
              refine wp_aload_n dX0_pickFor_59 rfl rfl ?_
              refine wp_getR dX0_pickFor_60 lX0_18 rfl zv1.o zv1.r2 ?_
              refine wp_iload dX0_pickFor_63 rfl ?_
              refine wp_ialdV dX0_pickFor_65 zv1.a2 rfl ⟨by omega, by omega⟩ ((congrFun zv1.c2 _).trans ((hs2 _ (by omega)).2.1.trans hdr.1.1)) ?_
              refine wp_iadd dX0_pickFor_66 ?_
              rw [nI_add]
              refine wp_istore (ls1 := [_, _, _, _, _, _, some _, _]) dX0_pickFor_67 (by decide) rfl ?_
              refine wp_aload_n dX0_pickFor_69 rfl rfl ?_
              refine wp_getR dX0_pickFor_70 lX0_63 rfl zt1.o zt1.r2 ?_
              refine wp_aload_n dX0_pickFor_73 rfl rfl ?_
              refine wp_getR dX0_pickFor_74 lX0_9 rfl zv1.o zv1.r0 ?_
              refine wp_iload dX0_pickFor_77 rfl ?_
              refine wp_ialdV dX0_pickFor_79 zv1.a0 rfl ⟨by omega, by omega⟩ ((congrFun zv1.c0 _).trans ek) ?_
              refine wp_laldV dX0_pickFor_80 zt1.a2 rfl ⟨by omega, by omega⟩ ((congrFun zt1.c2 _).trans (hR _ (by omega)).1.1) ?_
              refine wp_cSN1 0 0 [some _, none] dX0_pickFor_81 tX11_costOf sX11_costOf lX0_67 ⟨by decide, by decide⟩ (Nat.le_of_ble_eq_true rfl) (Nat.le_of_ble_eq_true rfl) rfl ?_
              refine pX11_costOf hKx ?_
              intro _ _
              refine wp_iload dX0_pickFor_84 rfl ?_
              refine wp_if_neN dX0_pickFor_86 rfl (by omega) (fun _ => ?_) (fun q => absurd q (by omega))
              refine wp_aload_n dX0_pickFor_93 rfl rfl ?_
              refine wp_getR dX0_pickFor_94 lX0_21 rfl zv1.o zv1.r3 ?_
              refine wp_iload dX0_pickFor_97 rfl ?_
              refine wp_ialdV dX0_pickFor_99 zv1.a3 rfl ⟨by omega, by omega⟩ ((congrFun zv1.c3 _).trans ((hs2 _ (by omega)).2.2.trans hdr.1.2)) ?_
              refine wp_iadd dX0_pickFor_100 ?_
              rw [nI_add]
              refine wp_istore (ls1 := [_, _, _, _, _, _, _, some _]) dX0_pickFor_101 (by decide) rfl ?_
              refine wp_aload_n dX0_pickFor_103 rfl rfl ?_
              refine wp_iload_n dX0_pickFor_104 rfl rfl ?_
              refine wp_iload dX0_pickFor_105 rfl ?_
              refine wp_iload dX0_pickFor_107 rfl ?_
              refine wp_aload_n dX0_pickFor_109 rfl rfl ?_
              refine wp_getR dX0_pickFor_110 lX0_9 rfl zv1.o zv1.r0 ?_
              refine wp_iload dX0_pickFor_113 rfl ?_
              refine wp_ialdV dX0_pickFor_115 zv1.a0 rfl ⟨by omega, by omega⟩ ((congrFun zv1.c0 _).trans ek) ?_
              refine wp_cV4 0 0 [some _, some _, some _, some _, some _] dX0_pickFor_116 tX0_isBetter rfl (by decide) nX0_isBetter vX0_isBetter lX0_71 ⟨by decide, by decide⟩ (Nat.le_of_ble_eq_true rfl) zv1.o (Nat.le_of_ble_eq_true rfl) rfl ?_
              obtain ⟨A9, C9, q9, I9, bA, bB, bI⟩ := cu_rd (rest := fun k => M (s &&& (63 - k))) hcu (pcb_le s) hfs (by omega) hK (by omega) hx hrb.1
              refine pX0_isBetter zv1 hs ⟨by omega, by omega, by omega⟩ bA bB (fun hb9 => ?_) (fun hb9 => ?_)
              · intro _ _
                have hb9 := bI.mpr hb9
                refine wp_if_eq dX0_pickFor_119 (fun q => absurd q (by decide +kernel)) (fun _ => ?_)
                refine wp_aload_n dX0_pickFor_122 rfl rfl ?_
                refine wp_getR dX0_pickFor_123 lX0_18 rfl zv1.o zv1.r2 ?_
                refine wp_iload_n dX0_pickFor_126 rfl rfl ?_
                refine wp_iload dX0_pickFor_127 rfl ?_
                refine wp_iastN dX0_pickFor_129 zv1.a2 rfl ⟨by omega, by omega⟩ ?_
                refine zv1.w2 (fun hh1 f1 zv1_1 => ?_)
                have zt1_1 := zt1.fr f1 (rnS (by omega) rn0)
                refine wp_aload_n dX0_pickFor_130 rfl rfl ?_
                refine wp_getR dX0_pickFor_131 lX0_21 rfl zv1_1.o zv1_1.r3 ?_
                refine wp_iload_n dX0_pickFor_134 rfl rfl ?_
                refine wp_iload dX0_pickFor_135 rfl ?_
                refine wp_iastN dX0_pickFor_137 zv1_1.a3 rfl ⟨by omega, by omega⟩ ?_
                refine zv1_1.w3 (fun hh2 f2 zv1_2 => ?_)
                have zt1_2 := zt1_1.fr f2 (rnS (by omega) rn0)
                refine wp_aload_n dX0_pickFor_138 rfl rfl ?_
                refine wp_getR dX0_pickFor_139 lX0_15 rfl zv1_2.o zv1_2.r1 ?_
                refine wp_iload_n dX0_pickFor_142 rfl rfl ?_
                refine wp_iload dX0_pickFor_143 rfl ?_
                refine wp_iastN dX0_pickFor_145 zv1_2.a1 rfl ⟨by omega, by omega⟩ ?_
                refine zv1_2.w1 (fun hh3 f3 zv1_3 => ?_)
                have zt1_3 := zt1_2.fr f3 (rnS (by omega) rn0)
                refine wp_iinc1 (ls1 := [_, _, _, _, some _, _, _, _]) dX0_pickFor_146 rfl (by decide) rfl ?_
                refine wp_goto dX0_pickFor_149 ?_
                exact ih (k + 1) _ _ _ _ _ _ _ (by omega) ((((hf1.up (by decide) (Nat.le_refl _)).tr (f1.up (by decide) (Nat.le_refl _))).tr (f2.up (by decide) (Nat.le_refl _))).tr (f3.up (by decide) (Nat.le_refl _))) zv1_3 zt1_3 (fun d hd => ⟨(upI_ne hd).trans (hs2 d hd).1, (upI_ne hd).trans (hs2 d hd).2.1, (upI_ne hd).trans (hs2 d hd).2.2⟩) (by rw [upI_at, upI_at, upI_at]; exact cu_yes (rest := fun k => M (s &&& (63 - k))) eB hkb (pcb_le s) hrb hKx hb9) (by omega)
              · intro _ _
                have hb9 := fun z => hb9 (bI.mp z)
                refine wp_if_eq dX0_pickFor_119 (fun _ => ?_) (fun q => absurd q (by decide +kernel))
                refine wp_iinc1 (ls1 := [_, _, _, _, some _, _, _, _]) dX0_pickFor_146 rfl (by decide) rfl ?_
                refine wp_goto dX0_pickFor_149 ?_
                exact ih (k + 1) _ _ _ _ _ _ _ (by omega) (hf1.up (by decide) (Nat.le_refl _)) zv1 zt1 hs2 (cu_ke hcu eB hkb hb9) (by omega)
            · have hr0 : s &&& (63 - k) = 0 := by omega
              have hrb : (M (s &&& (63 - k))).1 + 1 ≤ pcb s ∧ (M (s &&& (63 - k))).2.1 + 256 ≤ 256 * pcb s := by rw [hr0, hdp.1]; show 0 + 1 ≤ pcb s ∧ 0 + 256 ≤ 256 * pcb s; omega
              refine wp_iconst (v := (nI 0)) dX0_pickFor_55 (by decide +kernel) ?_
              refine wp_goto dX0_pickFor_56 ?_
              refine wp_iadd dX0_pickFor_66 ?_
              rw [show nI 1 + nI 0 = nI (1 + (M (s &&& (63 - k))).1) from by rw [hr0, hdp.1]; rfl]
              refine wp_istore (ls1 := [_, _, _, _, _, _, some _, _]) dX0_pickFor_67 (by decide) rfl ?_
              refine wp_aload_n dX0_pickFor_69 rfl rfl ?_
              refine wp_getR dX0_pickFor_70 lX0_63 rfl zt1.o zt1.r2 ?_
              refine wp_aload_n dX0_pickFor_73 rfl rfl ?_
              refine wp_getR dX0_pickFor_74 lX0_9 rfl zv1.o zv1.r0 ?_
              refine wp_iload dX0_pickFor_77 rfl ?_
              refine wp_ialdV dX0_pickFor_79 zv1.a0 rfl ⟨by omega, by omega⟩ ((congrFun zv1.c0 _).trans ek) ?_
              refine wp_laldV dX0_pickFor_80 zt1.a2 rfl ⟨by omega, by omega⟩ ((congrFun zt1.c2 _).trans (hR _ (by omega)).1.1) ?_
              refine wp_cSN1 0 0 [some _, none] dX0_pickFor_81 tX11_costOf sX11_costOf lX0_67 ⟨by decide, by decide⟩ (Nat.le_of_ble_eq_true rfl) (Nat.le_of_ble_eq_true rfl) rfl ?_
              refine pX11_costOf hKx ?_
              intro _ _
              refine wp_iload dX0_pickFor_84 rfl ?_
              refine wp_if_neN dX0_pickFor_86 rfl (by omega) (fun q => absurd q (by omega)) (fun _ => ?_)
              refine wp_iconst (v := (nI 0)) dX0_pickFor_89 (by decide +kernel) ?_
              refine wp_goto dX0_pickFor_90 ?_
              refine wp_iadd dX0_pickFor_100 ?_
              rw [show nI (K x / 4294967296) + nI 0 = nI (K x / 4294967296 + (M (s &&& (63 - k))).2.1) from by rw [hr0, hdp.1, nI_add]]
              refine wp_istore (ls1 := [_, _, _, _, _, _, _, some _]) dX0_pickFor_101 (by decide) rfl ?_
              refine wp_aload_n dX0_pickFor_103 rfl rfl ?_
              refine wp_iload_n dX0_pickFor_104 rfl rfl ?_
              refine wp_iload dX0_pickFor_105 rfl ?_
              refine wp_iload dX0_pickFor_107 rfl ?_
              refine wp_aload_n dX0_pickFor_109 rfl rfl ?_
              refine wp_getR dX0_pickFor_110 lX0_9 rfl zv1.o zv1.r0 ?_
              refine wp_iload dX0_pickFor_113 rfl ?_
              refine wp_ialdV dX0_pickFor_115 zv1.a0 rfl ⟨by omega, by omega⟩ ((congrFun zv1.c0 _).trans ek) ?_
              refine wp_cV4 0 0 [some _, some _, some _, some _, some _] dX0_pickFor_116 tX0_isBetter rfl (by decide) nX0_isBetter vX0_isBetter lX0_71 ⟨by decide, by decide⟩ (Nat.le_of_ble_eq_true rfl) zv1.o (Nat.le_of_ble_eq_true rfl) rfl ?_
              obtain ⟨A9, C9, q9, I9, bA, bB, bI⟩ := cu_rd (rest := fun k => M (s &&& (63 - k))) hcu (pcb_le s) hfs (by omega) hK (by omega) hx hrb.1
              refine pX0_isBetter zv1 hs ⟨by omega, by omega, by omega⟩ bA bB (fun hb9 => ?_) (fun hb9 => ?_)
              · intro _ _
                have hb9 := bI.mpr hb9
                refine wp_if_eq dX0_pickFor_119 (fun q => absurd q (by decide +kernel)) (fun _ => ?_)
                refine wp_aload_n dX0_pickFor_122 rfl rfl ?_
                refine wp_getR dX0_pickFor_123 lX0_18 rfl zv1.o zv1.r2 ?_
                refine wp_iload_n dX0_pickFor_126 rfl rfl ?_
                refine wp_iload dX0_pickFor_127 rfl ?_
                refine wp_iastN dX0_pickFor_129 zv1.a2 rfl ⟨by omega, by omega⟩ ?_
                refine zv1.w2 (fun hh4 f4 zv1_4 => ?_)
                have zt1_4 := zt1.fr f4 (rnS (by omega) rn0)
                refine wp_aload_n dX0_pickFor_130 rfl rfl ?_
                refine wp_getR dX0_pickFor_131 lX0_21 rfl zv1_4.o zv1_4.r3 ?_
                refine wp_iload_n dX0_pickFor_134 rfl rfl ?_
                refine wp_iload dX0_pickFor_135 rfl ?_
                refine wp_iastN dX0_pickFor_137 zv1_4.a3 rfl ⟨by omega, by omega⟩ ?_
                refine zv1_4.w3 (fun hh5 f5 zv1_5 => ?_)
                have zt1_5 := zt1_4.fr f5 (rnS (by omega) rn0)
                refine wp_aload_n dX0_pickFor_138 rfl rfl ?_
                refine wp_getR dX0_pickFor_139 lX0_15 rfl zv1_5.o zv1_5.r1 ?_
                refine wp_iload_n dX0_pickFor_142 rfl rfl ?_
                refine wp_iload dX0_pickFor_143 rfl ?_
                refine wp_iastN dX0_pickFor_145 zv1_5.a1 rfl ⟨by omega, by omega⟩ ?_
                refine zv1_5.w1 (fun hh6 f6 zv1_6 => ?_)
                have zt1_6 := zt1_5.fr f6 (rnS (by omega) rn0)
                refine wp_iinc1 (ls1 := [_, _, _, _, some _, _, _, _]) dX0_pickFor_146 rfl (by decide) rfl ?_
                refine wp_goto dX0_pickFor_149 ?_
                exact ih (k + 1) _ _ _ _ _ _ _ (by omega) ((((hf1.up (by decide) (Nat.le_refl _)).tr (f4.up (by decide) (Nat.le_refl _))).tr (f5.up (by decide) (Nat.le_refl _))).tr (f6.up (by decide) (Nat.le_refl _))) zv1_6 zt1_6 (fun d hd => ⟨(upI_ne hd).trans (hs2 d hd).1, (upI_ne hd).trans (hs2 d hd).2.1, (upI_ne hd).trans (hs2 d hd).2.2⟩) (by rw [upI_at, upI_at, upI_at]; exact cu_yes (rest := fun k => M (s &&& (63 - k))) eB hkb (pcb_le s) hrb hKx hb9) (by omega)
              · intro _ _
                have hb9 := fun z => hb9 (bI.mp z)
                refine wp_if_eq dX0_pickFor_119 (fun _ => ?_) (fun q => absurd q (by decide +kernel))
                refine wp_iinc1 (ls1 := [_, _, _, _, some _, _, _, _]) dX0_pickFor_146 rfl (by decide) rfl ?_
                refine wp_goto dX0_pickFor_149 ?_
                exact ih (k + 1) _ _ _ _ _ _ _ (by omega) (hf1.up (by decide) (Nat.le_refl _)) zv1 zt1 hs2 (cu_ke hcu eB hkb hb9) (by omega)
  refine wp_iload_n dX0_pickFor_0 rfl rfl ?_
  refine wp_iload_n dX0_pickFor_1 rfl rfl ?_
  refine wp_ineg dX0_pickFor_2 ?_
  refine wp_iand dX0_pickFor_3 ?_
  rw [hlo]
  refine wp_istore_n (ls1 := [_, _, _, some _, _, _, _, _]) dX0_pickFor_4 rfl (by decide) rfl ?_
  refine wp_aload_n dX0_pickFor_5 rfl rfl ?_
  refine wp_getR dX0_pickFor_6 lX0_18 rfl zv.o zv.r2 ?_
  refine wp_iload_n dX0_pickFor_9 rfl rfl ?_
  refine wp_bipush (v := (nI 7)) dX0_pickFor_10 (by decide +kernel) ?_
  refine wp_iastN dX0_pickFor_12 zv.a2 rfl ⟨by omega, by omega⟩ ?_
  refine zv.w2 (fun hh1 f1 zv_1 => ?_)
  have zt_1 := zt.fr f1 (rnS (by omega) rn0)
  refine wp_iconst (v := (nI 1)) dX0_pickFor_13 (by decide +kernel) ?_
  refine wp_istore (ls1 := [_, _, _, _, some _, _, _, _]) dX0_pickFor_14 (by decide) rfl ?_
  exact hloop 64 1 _ _ _ _ _ _ _ ⟨by omega, by omega⟩ (f1.up (by decide) (Nat.le_refl _)) zv_1 zt_1 (fun d hd => ⟨rfl, upI_ne hd, rfl⟩) (cu_no (k := 0) (show upI _ _ _ _ = nI 7 from upI_at _ _ _) (Or.inr (Nat.zero_testBit _))) (by omega)
