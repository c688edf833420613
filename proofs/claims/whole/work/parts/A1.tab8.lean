/-! ===== a table is judged ===== -/
def tbC (r : Nat → Int64) (pa my : Nat → Int32) (f n c : Nat) (K O : Nat → Nat) (tc : Int32) (t2 : Nat → Int64) (t3 t4 t5 : Nat → Int32) : Prop := tc = nI c ∧ c ≤ n ∧ (∀ i, i < c → ((t2 i = lN (K i) ∧ K i < 1099511627776) ∧ t3 i = nI (O i) ∧ O i < 64) ∧ t4 i = nI (tvm r pa my f (exE r f) 1 (K i) 6) ∧ t5 i = nI (tvm r pa my f (exE r f) 2 (K i) 6)) ∧ ruS r pa f c K O
/-- a table that is right for a field -/
def tbR (ow : Nat → Nat) (h : mH) (a ρ : Nat) (tf : Int32) (r : Nat → Int64) (pa my : Nat → Int32) (f n m c : Nat) (K O : Nat → Nat) : Prop := ∃ a2 a3 a4 a5 a6 a7 tc t2 t3 t4 t5 t6 t7 tp, zT ow h a ρ n m a2 a3 a4 a5 a6 a7 tf tc t2 t3 t4 t5 t6 t7 tp ∧ ((64 ≤ m ∧ m ≤ 20480) ∧ 64 ≤ n ∧ n ≤ 20480) ∧ tbC r pa my f n c K O tc t2 t3 t4 t5
theorem tbR.fr {S : List Nat} {u9 : Nat} {ow ow' : Nat → Nat} {h h' : mH} {a ρ : Nat} {tf : Int32} {r : Nat → Int64} {pa my : Nat → Int32} {f n m c : Nat} {K O : Nat → Nat} (g : tbR ow h a ρ tf r pa my f n m c K O) (f9 : cFr S u9 ow h ow' h') (h1 : ρ ∉ S) : tbR ow' h' a ρ tf r pa my f n m c K O := by
  obtain ⟨a2, a3, a4, a5, a6, a7, tc, t2, t3, t4, t5, t6, t7, tp, z, hz⟩ := g
  exact ⟨a2, a3, a4, a5, a6, a7, tc, t2, t3, t4, t5, t6, t7, tp, z.fr f9 h1, hz⟩
theorem tbR.oo {ow : Nat → Nat} {h : mH} {a ρ : Nat} {tf : Int32} {r : Nat → Int64} {pa my : Nat → Int32} {f n m c : Nat} {K O : Nat → Nat} (g : tbR ow h a ρ tf r pa my f n m c K O) : hO h a 9 := by
  obtain ⟨a2, a3, a4, a5, a6, a7, tc, t2, t3, t4, t5, t6, t7, tp, z, hz⟩ := g
  exact z.o
theorem ru_cod {r : Nat → Int64} {F : Nat} {pa my : Nat → Int32} {f c i : Nat} {K O : Nat → Nat} (hd : sOK r F pa my) (hf : f < F) (g : ruS r pa f c K O) (hi : i < c) : cod (K i) := by
  obtain ⟨p, h1, h2⟩ := g.2.2.2 i hi
  obtain ⟨k1, k2⟩ := exE_tb h1
  exact bNr_cod hd hf k1 k2 h2
theorem tv_6 {r : Nat → Int64} {F : Nat} {pa my : Nat → Int32} {f v k : Nat} (hd : sOK r F pa my) : tvm r pa my f (exE r f) v k 6 = tvm r pa my f (exE r f) v k (rP r) := by
  have hP6 := hd.w.1.2
  have : ∀ d, rP r + d ≤ 6 → tvm r pa my f (exE r f) v k (rP r + d) = tvm r pa my f (exE r f) v k (rP r) := by
    intro d
    induction d with
    | zero => intro _; rfl
    | succ d ih =>
      intro hd9
      rw [← Nat.add_assoc, tvm_no, ih (by omega)]
      exact Bool.eq_false_iff.mpr (fun z => by have := (exE_tb z).1; omega)
  have h := this (6 - rP r) (by omega)
  rwa [show rP r + (6 - rP r) = 6 by omega] at h
theorem tv_y {r : Nat → Int64} {pa my : Nat → Int32} {f v k p : Nat} (hp : p < rP r) (hm : 0 < rM r f p) (h : tvK r pa my f p k = v) : tvm r pa my f (exE r f) v k (p + 1) = tvm r pa my f (exE r f) v k p ||| 2 ^ p := by
  rw [tvm_s, if_pos ⟨exE_of ⟨hp, hm⟩, h⟩]
theorem tv_n {r : Nat → Int64} {pa my : Nat → Int32} {f v k p : Nat} (h : tvK r pa my f p k ≠ v) : tvm r pa my f (exE r f) v k (p + 1) = tvm r pa my f (exE r f) v k p ||| 0 := by
  rw [tvm_s, if_neg (fun z => h z.2)]
theorem tv_e {r : Nat → Int64} {pa my : Nat → Int32} {f v k p : Nat} (h : rM r f p = 0) : tvm r pa my f (exE r f) v k (p + 1) = tvm r pa my f (exE r f) v k p := tvm_no (Bool.eq_false_iff.mpr (fun z => by have := (exE_tb z).2; omega))
theorem up_j4 {T : Nat → Int32} {g g' : Nat → Nat} {i c : Nat} (h : ∀ j, i ≤ j → j < c → T j = nI (g j)) : ∀ j, i + 1 ≤ j → j < c → upI T i (nI (g' i)) j = nI (g j) := fun j h1 h2 => by
  unfold upI
  rw [if_neg (by omega)]
  exact h j (by omega) h2
theorem up_k4 {T : Nat → Int32} {g' : Nat → Nat} {i : Nat} (h : ∀ j, j < i → T j = nI (g' j)) : ∀ j, j < i + 1 → upI T i (nI (g' i)) j = nI (g' j) := fun j h1 => by
  unfold upI
  by_cases z : j = i
  · rw [if_pos z, z]
  · rw [if_neg z]
    exact h j (by omega)
set_option maxRecDepth 20000 in
theorem pX9_judge {h : mH} {Q : Option Value → mH → Prop} {ow : Nat → Nat} {a ρ n m c : Nat} {K O : Nat → Nat} {pl : Nat → Int64} {gb ge : Int32} {gs gn : Int64} {gf gt : Int32} {sa σ fq F f : Nat} {pa my : Nat → Int32} {r : Nat → Int64} (tk : tTk ow h a ρ n m c K O) (ru : ruS r pa f c K O) (hρ : 10 < ρ ∧ ρ < 20) (zg : zG ow h pl gb ge gs gn gf gt) (s9 : stR ow h sa σ r) (hσ : 20 ≤ σ) (fl : flR ow h fq F pa my) (hd : sOK r F pa my) (hf : f < F) (hq : ∀ h', cFr [1, ρ] 0 ow h ow h' → (∃ tf, tbR ow h' a ρ tf r pa my f n m c K O) → (∃ pl gb ge gs gn gf gt, zG ow h' pl gb ge gs gn gf gt) → Q none h') : Wp mX9_judge 4 95 0 [some (.ref a), some (.ref sa), some (.ref fq), some (.int (nI f)), some (.ref 115), none, none, none, none] [] h Q := by
  have hP6 := hd.w.1.2
  have hF4 := hd.f4
  obtain ⟨a2, a3, a4, a5, a6, a7, tf, t2, t3, t4, t5, t6, t7, tp, zt, hm9, hn9, hR⟩ := tk
  have hcn := hn9.2.2
  have hmn : (64 ≤ m ∧ m ≤ 20480) ∧ 64 ≤ n ∧ n ≤ 20480 := ⟨hm9, hn9.1, hn9.2.1⟩
  have hq : ∀ h', cFr [1, ρ] 0 ow h ow h' → tbR ow h' a ρ tf r pa my f n m c K O → (∃ pl gb ge gs gn gf gt, zG ow h' pl gb ge gs gn gf gt) → Q none h' := fun h' f1 t g => hq h' f1 ⟨_, t⟩ g
  have hin : ∀ (p : Nat) (hp : p < rP r) (hmk : 0 < rM r f p) (pl : Nat → Int64) (hP : gP pl (pmR r p (-1)) (rowL (-1) (rT r p)).length) (t9 : Nat) (i : Nat) (u4 : Nat → Int32) (u5 : Nat → Int32) (x8 : Option Value) (gs1 : Int64) (gn1 : Int64) (gf1 : Int32) (gt1 : Int32) (h1 : mH), (i ≤ c) → (cFr [1, ρ] 0 ow h ow h1) → (zT ow h1 a ρ n m a2 a3 a4 a5 a6 a7 tf (nI c) t2 t3 u4 u5 t6 t7 tp) → (zG ow h1 pl (nI (rgA r pa f p)) (nI (rgB r pa f p)) gs1 gn1 gf1 gt1) → (stR ow h1 sa σ r) → (flR ow h1 fq F pa my) → (∀ j, i ≤ j → j < c → u4 j = nI (tvm r pa my f (exE r f) 1 (K j) p)) → (∀ j, j < i → u4 j = nI (tvm r pa my f (exE r f) 1 (K j) (p + 1))) → (∀ j, i ≤ j → j < c → u5 j = nI (tvm r pa my f (exE r f) 2 (K j) p)) → (∀ j, j < i → u5 j = nI (tvm r pa my f (exE r f) 2 (K j) (p + 1))) → (c < i + t9) → (∀ (u4 u5 : Nat → Int32) (z9 : Nat) h1 (x6 x7 x8 : Option Value) (y1 y2 y3 : Nat), cFr [1, ρ] 0 ow h ow h1 → zT ow h1 a ρ n m a2 a3 a4 a5 a6 a7 tf (nI c) t2 t3 u4 u5 t6 t7 tp → (∃ pl gb ge gs gn gf gt, zG ow h1 pl gb ge gs gn gf gt) → stR ow h1 sa σ r → flR ow h1 fq F pa my → (∀ j, j < c → u4 j = nI (tvm r pa my f (exE r f) 1 (K j) (p + 1))) → (∀ j, j < c → u5 j = nI (tvm r pa my f (exE r f) 2 (K j) (p + 1))) → Wp mX9_judge 4 95 165 [some (.ref a), some (.ref sa), some (.ref fq), some (.int (nI f)), some (.ref 115), some (.int (nI p)), x6, x7, x8] [] h1 Q) → Wp mX9_judge 4 95 63 [some (.ref a), some (.ref sa), some (.ref fq), some (.int (nI f)), some (.ref 115), some (.int (nI p)), some (.int (nI (6 * f + p))), some (.int (nI i)), x8] [] h1 Q := by
    intro p hp hmk pl hP t9
    induction t9 with
    | zero => intros; omega
    | succ t9 ih =>
      intro i u4 u5 x8 gs1 gn1 gf1 gt1 h1 hi hf1 zt1 zg1 s1 fl1 h4a h4b h5a h5b hmz hcont
      have hT40p := (hd.w.2.1 p (by omega)).2
      have hrg := rg_le hd hf (show p < 6 by omega)
      have hrl := row1 (k := rT r p) (by omega)
      refine wp_iload dX9_judge_63 rfl ?_
      refine wp_aload_n dX9_judge_65 rfl rfl ?_
      refine wp_getIV dX9_judge_66 lX9_133 rfl zt1.o zt1.f1 ?_
      refine wp_icmp_geN dX9_judge_69 rfl rfl ⟨by omega, by omega⟩ (fun c2 => ?_) (fun c2 => ?_)
      · have ei9 : i = c := by omega
        subst ei9
        exact hcont _ _ 0 _ _ _ _ 0 0 0 hf1 zt1 ⟨_, _, _, _, _, _, _, zg1⟩ s1 fl1 h4b h5b
      · refine wp_aload dX9_judge_72 rfl ?_
        refine wp_aload_n dX9_judge_74 rfl rfl ?_
        refine wp_getR dX9_judge_75 lX9_9 rfl zt1.o zt1.r2 ?_
        refine wp_iload dX9_judge_78 rfl ?_
        refine wp_laldV dX9_judge_80 zt1.a2 rfl ⟨by omega, by omega⟩ ((congrFun zt1.c2 _).trans (hR i (by omega)).1.1) ?_
        refine wp_aload_n dX9_judge_81 rfl rfl ?_
        refine wp_getR dX9_judge_82 lX9_145 rfl fl1.oo fl1.r2 ?_
        refine wp_iload_n dX9_judge_85 rfl rfl ?_
        refine wp_zaldV dX9_judge_86 fl1.a2 rfl ⟨by omega, by omega⟩ (fl1.c2 hf) ?_
        refine wp_cV2 3 70 [some _, some _, none, some _, none, none] dX9_judge_87 tX2_slice rfl (by decide) nX2_slice vX2_slice lX9_149 ⟨by decide, by decide⟩ (Nat.le_of_ble_eq_true rfl) zg1.o (Nat.le_of_ble_eq_true rfl) rfl ?_
        refine pX2_slice zg1 hP (by omega) (by omega) (hR i (by omega)).1.2 (cod_it (ru_cod hd hf ru (show i < c by omega))).2 hrg.1 (hd.my f (by omega)) (fun hh1 x1 y1 f1 zg_1 => ?_)
        intro _ _
        have zt1_1 := zt1.fr f1 (rnS (by omega) rn0)
        have s1_1 := s1.fr f1 (rnS (by omega) rn0) (rnS (by omega) rn0)
        have fl1_1 := fl1.fr f1 (rnS (by omega) rn0)
        refine wp_aload dX9_judge_90 rfl ?_
        refine wp_aload_n dX9_judge_92 rfl rfl ?_
        refine wp_getR dX9_judge_93 lX9_59 rfl s1_1.oo s1_1.r2 ?_
        refine wp_iload dX9_judge_96 rfl ?_
        refine wp_laldV dX9_judge_98 s1_1.a2 rfl ⟨by omega, by omega⟩ (s1_1.c2 (by omega) (by omega)) ?_
        refine wp_aload_n dX9_judge_99 rfl rfl ?_
        refine wp_getR dX9_judge_100 lX9_70 rfl s1_1.oo s1_1.r3 ?_
        refine wp_iload dX9_judge_103 rfl ?_
        refine wp_laldV dX9_judge_105 s1_1.a3 rfl ⟨by omega, by omega⟩ (s1_1.c3 (by omega) (by omega)) ?_
        refine wp_cV2 0 0 [some _, some _, none, some _, none] dX9_judge_106 tX2_verdict rfl (by decide) nX2_verdict vX2_verdict lX9_153 ⟨by decide, by decide⟩ (Nat.le_of_ble_eq_true rfl) zg_1.o (Nat.le_of_ble_eq_true rfl) rfl ?_
        refine pX2_verdict (l := tryL r pa my f p (itm (kI (K i) 0)) (itm (kI (K i) 1)) (itm (kI (K i) 2)) (itm (kI (K i) 3))) zg_1 (tryL_srt hd hf (by omega)) (by omega) (srt_mk hd (by omega) (by omega)) (by omega) ?_
        intro _ _
        have h3 := vd_lt (tryL r pa my f p (itm (kI (K i) 0)) (itm (kI (K i) 1)) (itm (kI (K i) 2)) (itm (kI (K i) 3))) (mkL r f p)
        have hvd : vdN (tryL r pa my f p (itm (kI (K i) 0)) (itm (kI (K i) 1)) (itm (kI (K i) 2)) (itm (kI (K i) 3))) (mkL r f p) = tvK r pa my f p (K i) := rfl
        rw [hvd]
        rw [hvd] at h3
        refine wp_istore (ls1 := [_, _, _, _, _, _, _, _, some _]) dX9_judge_109 (by decide) rfl ?_
        refine wp_aload_n dX9_judge_111 rfl rfl ?_
        refine wp_getR dX9_judge_112 lX9_19 rfl zt1_1.o zt1_1.r4 ?_
        refine wp_iload dX9_judge_115 rfl ?_
        refine wp_dup2 dX9_judge_117 rfl rfl ?_
        refine wp_ialdV dX9_judge_118 zt1_1.a4 rfl ⟨by omega, by omega⟩ ((congrFun zt1_1.c4 _).trans (h4a i (by omega) (by omega))) ?_
        refine wp_iload dX9_judge_119 rfl ?_
        refine wp_iconst (v := (nI 1)) dX9_judge_121 (by decide +kernel) ?_
        refine wp_icmp_neN dX9_judge_122 rfl rfl ⟨by omega, by omega⟩ (fun c3 => ?_) (fun c3 => ?_)
        · refine wp_iconst (v := (nI 0)) dX9_judge_132 (by decide +kernel) ?_
          refine wp_ior dX9_judge_133 ?_
          rw [nx_or, ← tv_n (by assumption)]
          refine wp_iastN dX9_judge_134 zt1_1.a4 rfl ⟨by omega, by omega⟩ ?_
          refine zt1_1.w4 (fun hh2 f2 zt1_2 => ?_)
          have zg_2 := zg_1.fr f2 (rnS (by omega) rn0)
          have s1_2 := s1_1.fr f2 (rnS (by omega) rn0) (rnS (by omega) rn0)
          have fl1_2 := fl1_1.fr f2 (rnS (by omega) rn0)
          refine wp_aload_n dX9_judge_135 rfl rfl ?_
          refine wp_getR dX9_judge_136 lX9_22 rfl zt1_2.o zt1_2.r5 ?_
          refine wp_iload dX9_judge_139 rfl ?_
          refine wp_dup2 dX9_judge_141 rfl rfl ?_
          refine wp_ialdV dX9_judge_142 zt1_2.a5 rfl ⟨by omega, by omega⟩ ((congrFun zt1_2.c5 _).trans (h5a i (by omega) (by omega))) ?_
          refine wp_iload dX9_judge_143 rfl ?_
          refine wp_iconst (v := (nI 2)) dX9_judge_145 (by decide +kernel) ?_
          refine wp_icmp_neN dX9_judge_146 rfl rfl ⟨by omega, by omega⟩ (fun c4 => ?_) (fun c4 => ?_)
          · refine wp_iconst (v := (nI 0)) dX9_judge_156 (by decide +kernel) ?_
            refine wp_ior dX9_judge_157 ?_
            rw [nx_or, ← tv_n (by assumption)]
            refine wp_iastN dX9_judge_158 zt1_2.a5 rfl ⟨by omega, by omega⟩ ?_
            refine zt1_2.w5 (fun hh3 f3 zt1_3 => ?_)
            have zg_3 := zg_2.fr f3 (rnS (by omega) rn0)
            have s1_3 := s1_2.fr f3 (rnS (by omega) rn0) (rnS (by omega) rn0)
            have fl1_3 := fl1_2.fr f3 (rnS (by omega) rn0)
            refine wp_iinc1 (ls1 := [_, _, _, _, _, _, _, some _, _]) dX9_judge_159 rfl (by decide) rfl ?_
            refine wp_goto dX9_judge_162 ?_
            refine ih (i + 1) _ _ _ _ _ _ _ _ (by omega) ((((hf1.tr (f1.up (fun x hx => by simp at hx ⊢; omega) (Nat.le_refl _))).tr (f2.up (fun x hx => by simp at hx ⊢; omega) (Nat.le_refl _))).tr (f3.up (fun x hx => by simp at hx ⊢; omega) (Nat.le_refl _)))) zt1_3 zg_3 s1_3 fl1_3 (up_j4 (g' := fun j => tvm r pa my f (exE r f) 1 (K j) (p + 1)) h4a) (up_k4 (g' := fun j => tvm r pa my f (exE r f) 1 (K j) (p + 1)) h4b) (up_j4 (g' := fun j => tvm r pa my f (exE r f) 2 (K j) (p + 1)) h5a) (up_k4 (g' := fun j => tvm r pa my f (exE r f) 2 (K j) (p + 1)) h5b) (by omega) hcont
          · refine wp_iconst (v := (nI 1)) dX9_judge_149 (by decide +kernel) ?_
            refine wp_iload dX9_judge_150 rfl ?_
            refine wp_ishl dX9_judge_152 ?_
            refine wp_goto dX9_judge_153 ?_
            refine wp_ior dX9_judge_157 ?_
            rw [nx_shl1b (by omega), nx_or, ← tv_y (by omega) hmk (by assumption)]
            refine wp_iastN dX9_judge_158 zt1_2.a5 rfl ⟨by omega, by omega⟩ ?_
            refine zt1_2.w5 (fun hh4 f4 zt1_4 => ?_)
            have zg_4 := zg_2.fr f4 (rnS (by omega) rn0)
            have s1_4 := s1_2.fr f4 (rnS (by omega) rn0) (rnS (by omega) rn0)
            have fl1_4 := fl1_2.fr f4 (rnS (by omega) rn0)
            refine wp_iinc1 (ls1 := [_, _, _, _, _, _, _, some _, _]) dX9_judge_159 rfl (by decide) rfl ?_
            refine wp_goto dX9_judge_162 ?_
            refine ih (i + 1) _ _ _ _ _ _ _ _ (by omega) ((((hf1.tr (f1.up (fun x hx => by simp at hx ⊢; omega) (Nat.le_refl _))).tr (f2.up (fun x hx => by simp at hx ⊢; omega) (Nat.le_refl _))).tr (f4.up (fun x hx => by simp at hx ⊢; omega) (Nat.le_refl _)))) zt1_4 zg_4 s1_4 fl1_4 (up_j4 (g' := fun j => tvm r pa my f (exE r f) 1 (K j) (p + 1)) h4a) (up_k4 (g' := fun j => tvm r pa my f (exE r f) 1 (K j) (p + 1)) h4b) (up_j4 (g' := fun j => tvm r pa my f (exE r f) 2 (K j) (p + 1)) h5a) (up_k4 (g' := fun j => tvm r pa my f (exE r f) 2 (K j) (p + 1)) h5b) (by omega) hcont
        · refine wp_iconst (v := (nI 1)) dX9_judge_125 (by decide +kernel) ?_
          refine wp_iload dX9_judge_126 rfl ?_
          refine wp_ishl dX9_judge_128 ?_
          refine wp_goto dX9_judge_129 ?_
          refine wp_ior dX9_judge_133 ?_
          rw [nx_shl1b (by omega), nx_or, ← tv_y (by omega) hmk (by assumption)]
          refine wp_iastN dX9_judge_134 zt1_1.a4 rfl ⟨by omega, by omega⟩ ?_
          refine zt1_1.w4 (fun hh5 f5 zt1_5 => ?_)
          have zg_5 := zg_1.fr f5 (rnS (by omega) rn0)
          have s1_5 := s1_1.fr f5 (rnS (by omega) rn0) (rnS (by omega) rn0)
          have fl1_5 := fl1_1.fr f5 (rnS (by omega) rn0)
          refine wp_aload_n dX9_judge_135 rfl rfl ?_
          refine wp_getR dX9_judge_136 lX9_22 rfl zt1_5.o zt1_5.r5 ?_
          refine wp_iload dX9_judge_139 rfl ?_
          refine wp_dup2 dX9_judge_141 rfl rfl ?_
          refine wp_ialdV dX9_judge_142 zt1_5.a5 rfl ⟨by omega, by omega⟩ ((congrFun zt1_5.c5 _).trans (h5a i (by omega) (by omega))) ?_
          refine wp_iload dX9_judge_143 rfl ?_
          refine wp_iconst (v := (nI 2)) dX9_judge_145 (by decide +kernel) ?_
          refine wp_icmp_neN dX9_judge_146 rfl rfl ⟨by omega, by omega⟩ (fun c5 => ?_) (fun c5 => ?_)
          · refine wp_iconst (v := (nI 0)) dX9_judge_156 (by decide +kernel) ?_
            refine wp_ior dX9_judge_157 ?_
            rw [nx_or, ← tv_n (by assumption)]
            refine wp_iastN dX9_judge_158 zt1_5.a5 rfl ⟨by omega, by omega⟩ ?_
            refine zt1_5.w5 (fun hh6 f6 zt1_6 => ?_)
            have zg_6 := zg_5.fr f6 (rnS (by omega) rn0)
            have s1_6 := s1_5.fr f6 (rnS (by omega) rn0) (rnS (by omega) rn0)
            have fl1_6 := fl1_5.fr f6 (rnS (by omega) rn0)
            refine wp_iinc1 (ls1 := [_, _, _, _, _, _, _, some _, _]) dX9_judge_159 rfl (by decide) rfl ?_
            refine wp_goto dX9_judge_162 ?_
            refine ih (i + 1) _ _ _ _ _ _ _ _ (by omega) ((((hf1.tr (f1.up (fun x hx => by simp at hx ⊢; omega) (Nat.le_refl _))).tr (f5.up (fun x hx => by simp at hx ⊢; omega) (Nat.le_refl _))).tr (f6.up (fun x hx => by simp at hx ⊢; omega) (Nat.le_refl _)))) zt1_6 zg_6 s1_6 fl1_6 (up_j4 (g' := fun j => tvm r pa my f (exE r f) 1 (K j) (p + 1)) h4a) (up_k4 (g' := fun j => tvm r pa my f (exE r f) 1 (K j) (p + 1)) h4b) (up_j4 (g' := fun j => tvm r pa my f (exE r f) 2 (K j) (p + 1)) h5a) (up_k4 (g' := fun j => tvm r pa my f (exE r f) 2 (K j) (p + 1)) h5b) (by omega) hcont
          · refine wp_iconst (v := (nI 1)) dX9_judge_149 (by decide +kernel) ?_
            refine wp_iload dX9_judge_150 rfl ?_
            refine wp_ishl dX9_judge_152 ?_
            refine wp_goto dX9_judge_153 ?_
            refine wp_ior dX9_judge_157 ?_
            rw [nx_shl1b (by omega), nx_or, ← tv_y (by omega) hmk (by assumption)]
            refine wp_iastN dX9_judge_158 zt1_5.a5 rfl ⟨by omega, by omega⟩ ?_
            refine zt1_5.w5 (fun hh7 f7 zt1_7 => ?_)
            have zg_7 := zg_5.fr f7 (rnS (by omega) rn0)
            have s1_7 := s1_5.fr f7 (rnS (by omega) rn0) (rnS (by omega) rn0)
            have fl1_7 := fl1_5.fr f7 (rnS (by omega) rn0)
            refine wp_iinc1 (ls1 := [_, _, _, _, _, _, _, some _, _]) dX9_judge_159 rfl (by decide) rfl ?_
            refine wp_goto dX9_judge_162 ?_
            refine ih (i + 1) _ _ _ _ _ _ _ _ (by omega) ((((hf1.tr (f1.up (fun x hx => by simp at hx ⊢; omega) (Nat.le_refl _))).tr (f5.up (fun x hx => by simp at hx ⊢; omega) (Nat.le_refl _))).tr (f7.up (fun x hx => by simp at hx ⊢; omega) (Nat.le_refl _)))) zt1_7 zg_7 s1_7 fl1_7 (up_j4 (g' := fun j => tvm r pa my f (exE r f) 1 (K j) (p + 1)) h4a) (up_k4 (g' := fun j => tvm r pa my f (exE r f) 1 (K j) (p + 1)) h4b) (up_j4 (g' := fun j => tvm r pa my f (exE r f) 2 (K j) (p + 1)) h5a) (up_k4 (g' := fun j => tvm r pa my f (exE r f) 2 (K j) (p + 1)) h5b) (by omega) hcont
  have hout : ∀  (t9 : Nat) (p : Nat) (u4 : Nat → Int32) (u5 : Nat → Int32) (x6 : Option Value) (x7 : Option Value) (x8 : Option Value) (pl1 : Nat → Int64) (gb1 : Int32) (ge1 : Int32) (gs1 : Int64) (gn1 : Int64) (gf1 : Int32) (gt1 : Int32) (h1 : mH), (p ≤ rP r) → (cFr [1, ρ] 0 ow h ow h1) → (zT ow h1 a ρ n m a2 a3 a4 a5 a6 a7 tf (nI c) t2 t3 u4 u5 t6 t7 tp) → (zG ow h1 pl1 gb1 ge1 gs1 gn1 gf1 gt1) → (stR ow h1 sa σ r) → (flR ow h1 fq F pa my) → (∀ j, j < c → u4 j = nI (tvm r pa my f (exE r f) 1 (K j) p)) → (∀ j, j < c → u5 j = nI (tvm r pa my f (exE r f) 2 (K j) p)) → (rP r < p + t9) → Wp mX9_judge 4 95 19 [some (.ref a), some (.ref sa), some (.ref fq), some (.int (nI f)), some (.ref 115), some (.int (nI p)), x6, x7, x8] [] h1 Q := by
    intro t9
    induction t9 with
    | zero => intros; omega
    | succ t9 ih =>
      intro p u4 u5 x6 x7 x8 pl1 gb1 ge1 gs1 gn1 gf1 gt1 h1 hp hf1 zt1 zg1 s1 fl1 h4 h5 hmz
      refine wp_iload dX9_judge_19 rfl ?_
      refine wp_aload_n dX9_judge_21 rfl rfl ?_
      refine wp_getIV dX9_judge_22 lX9_35 rfl s1.oo s1.f4 ?_
      refine wp_icmp_geN dX9_judge_25 rfl rfl ⟨by omega, by omega⟩ (fun c2 => ?_) (fun c2 => ?_)
      · refine wp_vreturn dX9_judge_171 rfl ?_
        have ep9 : p = rP r := by omega
        subst ep9
        exact hq _ hf1 ⟨_, _, _, _, _, _, _, _, _, _, _, _, _, _, zt1, hmn, rfl, hcn, fun i hi => ⟨hR i hi, by rw [tv_6 hd]; exact h4 i hi, by rw [tv_6 hd]; exact h5 i hi⟩, ru⟩ ⟨_, _, _, _, _, _, _, zg1⟩
      · refine wp_aload_n dX9_judge_28 rfl rfl ?_
        refine wp_iload dX9_judge_29 rfl ?_
        refine wp_iload_n dX9_judge_31 rfl rfl ?_
        refine wp_cV2 1 21 [some _, some _, some _] dX9_judge_32 tX8_isExample rfl (by decide) nX8_isExample vX8_isExample lX9_44 ⟨by decide, by decide⟩ (Nat.le_of_ble_eq_true rfl) s1.oo (Nat.le_of_ble_eq_true rfl) rfl ?_
        refine pX8_isExample s1 hd (by omega) (fun p1 hp1 ep1 hm1 => ?_) (fun hn1 => ?_)
        · have ep1 := (nI_eq (by omega) (by omega)).mp ep1
          subst ep1
          intro _ _
          refine wp_if_eq dX9_judge_35 (fun q => absurd q (by decide +kernel)) (fun _ => ?_)
          refine wp_iload dX9_judge_38 rfl ?_
          refine wp_iload_n dX9_judge_40 rfl rfl ?_
          refine wp_cSN2 0 0 [some _, some _] dX9_judge_41 tX11_spotOf sX11_spotOf lX9_62 ⟨by decide, by decide⟩ (Nat.le_of_ble_eq_true rfl) (Nat.le_of_ble_eq_true rfl) rfl ?_
          refine pX11_spotOf ?_
          intro _ _
          refine wp_istore (ls1 := [_, _, _, _, _, _, some _, _, _]) dX9_judge_44 (by decide) rfl ?_
          refine wp_aload dX9_judge_46 rfl ?_
          refine wp_aload_n dX9_judge_48 rfl rfl ?_
          refine wp_iload dX9_judge_49 rfl ?_
          refine wp_aload_n dX9_judge_51 rfl rfl ?_
          refine wp_getR dX9_judge_52 lX9_48 rfl fl1.oo fl1.r1 ?_
          refine wp_iload_n dX9_judge_55 rfl rfl ?_
          refine wp_ialdV dX9_judge_56 fl1.a1 rfl ⟨by omega, by omega⟩ (fl1.c1 hf) ?_
          refine wp_cV3 2 49 [some _, some _, some _, some _, none, none] dX9_judge_57 tX2_layMarked rfl (by decide) nX2_layMarked vX2_layMarked lX9_53 ⟨by decide, by decide⟩ (Nat.le_of_ble_eq_true rfl) zg1.o (Nat.le_of_ble_eq_true rfl) rfl ?_
          refine pX2_layMarked zg1 s1 (by first | exact Nat.le_add_right _ _ | omega) hd (by omega) (by omega) (fun hh2 pl2 f2 zg_2 gp2 => ?_)
          intro _ _
          have zt1_2 := zt1.fr f2 (rnS (by omega) rn0)
          have s1_2 := s1.fr f2 (rnS (by omega) rn0) (rnS (by omega) rn0)
          have fl1_2 := fl1.fr f2 (rnS (by omega) rn0)
          refine wp_iconst (v := (nI 0)) dX9_judge_60 (by decide +kernel) ?_
          refine wp_istore (ls1 := [_, _, _, _, _, _, _, some _, _]) dX9_judge_61 (by decide) rfl ?_
          refine hin p (by omega) hm1 _ gp2 (c + 1) 0 _ _ _ _ _ _ _ _ (by omega) (hf1.tr (f2.up (fun x hx => by simp at hx ⊢; omega) (Nat.le_refl _))) zt1_2 zg_2 s1_2 fl1_2 (fun j _ hj => h4 j hj) (fun j hj => absurd hj (Nat.not_lt_zero j)) (fun j _ hj => h5 j hj) (fun j hj => absurd hj (Nat.not_lt_zero j)) (by omega) ?_
          intro v4 v5 z9 h2 x6 x7 x8 y1 y2 y3 hf2 zt2 hg2 s2 fl2 e4 e5
          obtain ⟨_, _, _, _, _, _, _, zg2⟩ := hg2
          refine wp_iinc1 (ls1 := [_, _, _, _, _, some _, _, _, _]) dX9_judge_165 rfl (by decide) rfl ?_
          refine wp_goto dX9_judge_168 ?_
          exact ih (p + 1) _ _ _ _ _ _ _ _ _ _ _ _ _ (by omega) hf2 zt2 zg2 s2 fl2 e4 e5 (by omega)
        · have hn1 := ex_no (by omega) (by omega) hn1
          intro _ _
          refine wp_if_eq dX9_judge_35 (fun _ => ?_) (fun q => absurd q (by decide +kernel))
          refine wp_iinc1 (ls1 := [_, _, _, _, _, some _, _, _, _]) dX9_judge_165 rfl (by decide) rfl ?_
          refine wp_goto dX9_judge_168 ?_
          exact ih (p + 1) _ _ _ _ _ _ _ _ _ _ _ _ _ (by omega) hf1 zt1 zg1 s1 fl1 (fun j hj => by rw [tv_e hn1]; exact h4 j hj) (fun j hj => by rw [tv_e hn1]; exact h5 j hj) (by omega)
  refine wp_aload_n dX9_judge_0 rfl rfl ?_
  refine wp_getR dX9_judge_1 lX9_19 rfl zt.o zt.r4 ?_
  refine wp_iconst (v := (nI 0)) dX9_judge_4 (by decide +kernel) ?_
  refine wp_cS2 0 0 [some _, some _, none, none] dX9_judge_5 tJ7_fill_53178 sJ7_fill_53178 lX9_141 ⟨by decide, by decide⟩ (Nat.le_of_ble_eq_true rfl) (Nat.le_of_ble_eq_true rfl) rfl ?_
  refine pJ7_fill_53178 zt.a4 (by omega) ?_
  intro _ _
  refine zt.z4 rfl (fun hh1 f1 zt_1 => ?_)
  have zg_1 := zg.fr f1 (rnS (by omega) rn0)
  have s9_1 := s9.fr f1 (rnS (by omega) rn0) (rnS (by omega) rn0)
  have fl_1 := fl.fr f1 (rnS (by omega) rn0)
  refine wp_aload_n dX9_judge_8 rfl rfl ?_
  refine wp_getR dX9_judge_9 lX9_22 rfl zt_1.o zt_1.r5 ?_
  refine wp_iconst (v := (nI 0)) dX9_judge_12 (by decide +kernel) ?_
  refine wp_cS2 0 0 [some _, some _, none, none] dX9_judge_13 tJ7_fill_53178 sJ7_fill_53178 lX9_141 ⟨by decide, by decide⟩ (Nat.le_of_ble_eq_true rfl) (Nat.le_of_ble_eq_true rfl) rfl ?_
  refine pJ7_fill_53178 zt_1.a5 (by omega) ?_
  intro _ _
  refine zt_1.z5 rfl (fun hh2 f2 zt_2 => ?_)
  have zg_2 := zg_1.fr f2 (rnS (by omega) rn0)
  have s9_2 := s9_1.fr f2 (rnS (by omega) rn0) (rnS (by omega) rn0)
  have fl_2 := fl_1.fr f2 (rnS (by omega) rn0)
  refine wp_iconst (v := (nI 0)) dX9_judge_16 (by decide +kernel) ?_
  refine wp_istore (ls1 := [_, _, _, _, _, some _, _, _, _]) dX9_judge_17 (by decide) rfl ?_
  exact hout (rP r + 1) 0 _ _ _ _ _ _ _ _ _ _ _ _ _ (by omega) ((f1.up (fun x hx => by simp at hx ⊢; omega) (Nat.le_refl _)).tr (f2.up (fun x hx => by simp at hx ⊢; omega) (Nat.le_refl _))) zt_2 zg_2 s9_2 fl_2 (fun j hj => if_pos (by omega)) (fun j hj => if_pos (by omega)) (by omega)
