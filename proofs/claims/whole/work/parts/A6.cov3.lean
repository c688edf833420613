/-! ===== a cover solved is the cover ===== -/
theorem fs_go {O Wr Rt K : Nat → Nat} {s c g : Nat} {v0 : Nat → Int32} (q : fsP O Wr Rt s c v0 g) : goN (bO K v0) 64 = g := Nat.eq_of_testBit_eq (fun p => by
  rw [Bool.eq_iff_iff, q.1.2 p, goN_tb]
  constructor
  · rintro ⟨k, h1, h2, h3⟩
    refine ⟨k, h1, fun z => h2 (bO_n z), h3⟩
  · rintro ⟨k, h1, h2, h3⟩
    refine ⟨k, h1, ?_, h3⟩
    unfold bO
    rw [if_pos ⟨h1, h2⟩]
    exact fun z => by cases z)
theorem and_not2 {g d k : Nat} (hd : d < 64) (hk : k < 64) : g &&& (63 - (d ||| k)) = (g &&& (63 - d)) &&& (63 - k) := Nat.eq_of_testBit_eq (fun p => by
  rw [Nat.testBit_and, Nat.testBit_and, Nat.testBit_and, tb_not (Nat.or_lt_two_pow (n := 6) hd hk), tb_not hd, tb_not hk, Nat.testBit_or]
  cases g.testBit p <;> cases decide (p < 6) <;> cases d.testBit p <;> cases k.testBit p <;> rfl)
theorem and_self0 {g : Nat} (hg : g < 64) : g &&& (63 - g) = 0 := sub_of hg (fun _ h => h)
theorem and_63 {g : Nat} (hg : g < 64) : g &&& (63 - 0) = g := by
  have : ∀ g : Fin 64, g.val &&& (63 - 0) = g.val := by decide +kernel
  exact this ⟨g, hg⟩
theorem dp_cd {O Wr Rt K : Nat → Nat} {s9 c g : Nat} {v0 v1 v2 v3 : Nat → Int32} {M : Nat → Nat × Nat × Nat} (q : fsP O Wr Rt s9 c v0 g) (dp : dpF K v0 v1 v2 v3 M g 64) : cdP (bO K v0) (fun d => M (g &&& (63 - d))) g := by
  refine ⟨?_, fun d h1 h2 h3 => ?_⟩
  · show M (g &&& (63 - g)) = _
    rw [and_self0 q.1.1]
    exact dp.1.1
  · have h4 := ls_facts q.1.1 h1 h2 h3
    have h5 := (dp.2 (g &&& (63 - d)) (by omega) (and63 q.1.1) (sub_and (and_self0 q.1.1))).2
    rw [← h5]
    exact cvG_cg 64 (fun k hk _ _ => by show M (g &&& (63 - (d ||| k))) = M _; rw [and_not2 h1 hk])
theorem dp_ls {O Wr Rt K : Nat → Nat} {s9 c g : Nat} {v0 v1 v2 v3 : Nat → Int32} {M : Nat → Nat × Nat × Nat} (q : fsP O Wr Rt s9 c v0 g) (dp : dpF K v0 v1 v2 v3 M g 64) : ∀ n d, d < 64 → d &&& (63 - g) = 0 → cvLs (bO K v0) (fun d => M (g &&& (63 - d))) g n d = cvLr (bO K v0) M n (g &&& (63 - d))
  | 0, _, _, _ => rfl
  | n + 1, d, h1, h2 => by
    show (if d = g then [] else _) = _
    by_cases e : d = g
    · rw [if_pos e, e, and_self0 q.1.1, cvLr_0]
    · have h4 := ls_facts q.1.1 h1 h2 e
      rw [if_neg e, cvLr_s h4]
      have hgo := fs_go (K := K) q
      have cd := dp_cd q dp
      rw [← hgo] at cd h2 e
      have h3 := cd_step cd h1 h2 e
      rw [hgo] at h3
      rw [dp_ls q dp n _ h3.2.2.1 h3.2.2.2.1, and_not2 h1 h3.1]
theorem gd_fs {r : Nat → Int64} {pa my : Nat → Int32} {f c s i : Nat} {K O : Nat → Nat} (g : ruS r pa f c K O) (hs : s < 64) (hsub : ∀ p, s.testBit p = true → (exE r f).testBit p = true) (hi : i < c) : fsG O (fun i => tvm r pa my f (exE r f) 2 (K i) 6) s i ↔ gdK r pa my f s (K i) := by
  unfold fsG
  rw [and_ne]
  constructor
  · rintro ⟨⟨p, h1, h2⟩, h3⟩
    refine ⟨⟨p, tb6 hs h2, h2, ((g.2.1 i hi p).mp h1).2⟩, fun p hp h4 e => ?_⟩
    exact absurd h3 (and_ne.mpr ⟨p, (tvm_tb 6 p).trans (decide_eq_true ⟨hp, hsub p h4, e⟩), h4⟩)
  · rintro ⟨⟨p, hp, h1, h2⟩, h3⟩
    refine ⟨⟨p, (g.2.1 i hi p).mpr ⟨hsub p h1, h2⟩, h1⟩, Classical.byContradiction (fun c => ?_)⟩
    obtain ⟨p, h4, h5⟩ := and_ne.mp c
    rw [tvm_tb, decide_eq_true_iff] at h4
    exact h3 p h4.1 h5 h4.2.2
theorem fs_bst {r : Nat → Int64} {pa my : Nat → Int32} {f c s g : Nat} {K O : Nat → Nat} {v0 : Nat → Int32} (ru : ruS r pa f c K O) (hc : c ≤ 20480) (hK : ∀ i, i < c → K i < 1099511627776) (hs : s < 64) (hsub : ∀ p, s.testBit p = true → (exE r f).testBit p = true) (q : fsP O (fun i => tvm r pa my f (exE r f) 2 (K i) 6) (fun i => tvm r pa my f (exE r f) 1 (K i) 6) s c v0 g) : isBst r pa my f s (bO K v0) := by
  refine ⟨fun k hk => if_neg (fun z => absurd z.1 (by omega)), fun k hk => ?_⟩
  have fnd : ∀ x, gdK r pa my f s x → onK r pa my f s x = k → ∃ i, i < c ∧ K i = x ∧ fsG O (fun i => tvm r pa my f (exE r f) 2 (K i) 6) s i ∧ tvm r pa my f (exE r f) 1 (K i) 6 &&& s = k := by
    intro x hx ho
    obtain ⟨⟨p, hp, h1, h2⟩, h3⟩ := id hx
    obtain ⟨i, hi, e⟩ := ru.2.2.1 p x (hsub p h1) h2
    subst e
    exact ⟨i, hi, rfl, (gd_fs ru hs hsub hi).mpr hx, by rw [tvm_and hs hsub]; exact ho⟩
  rcases q.2 k hk with ⟨h1, h2⟩ | ⟨x, h1, h2, h3, h4, h5, h6⟩
  · refine Or.inl ⟨bO_n h1, fun x hx ho => ?_⟩
    obtain ⟨i, hi, e, a, b⟩ := fnd x hx ho
    exact h2 i hi a b
  · refine Or.inr ⟨K x, ?_, hK x h1, h5, (gd_fs ru hs hsub h1).mp h3, by rw [← h4]; exact (tvm_and hs hsub).symm, fun y hy ho => ?_⟩
    · unfold bO
      rw [if_pos ⟨hk, by rw [h2]; exact nI_ne_m1 (by omega)⟩, h2, nI_tn (by omega)]
    · obtain ⟨i, hi, e, a, b⟩ := fnd y hy ho
      have := h6 i hi a b
      rw [← e]
      rcases Nat.lt_or_eq_of_le this with z | z
      · exact Nat.le_of_lt (ru.1 x i z hi)
      · rw [z]; exact Nat.le_refl _
/-- the cover, as it stands -/
def svR (ow : Nat → Nat) (h : mH) (c : Nat) (K : Nat → Nat) (L : List Nat) (hop : Nat) : Prop := ∃ w0 w1 w2 w3 w4, zV ow h w0 w1 w2 w3 w4 (nI L.length) (nI (csum L L.length)) (nI hop) ∧ (L.length ≤ 6 ∧ hop < 64) ∧ rowP K c w4 L L.length
theorem svR.fr {S : List Nat} {u9 : Nat} {ow ow' : Nat → Nat} {h h' : mH} {c : Nat} {K : Nat → Nat} {L : List Nat} {hop : Nat} (g : svR ow h c K L hop) (f9 : cFr S u9 ow h ow' h') (h1 : 2 ∉ S) : svR ow' h' c K L hop := by
  obtain ⟨w0, w1, w2, w3, w4, z, hz⟩ := g
  exact ⟨w0, w1, w2, w3, w4, z.fr f9 h1, hz⟩
theorem svR.z {ow : Nat → Nat} {h : mH} {c : Nat} {K : Nat → Nat} {L : List Nat} {hop : Nat} (g : svR ow h c K L hop) : ∃ v0 v1 v2 v3 v4 vc vk vh, zV ow h v0 v1 v2 v3 v4 vc vk vh := by
  obtain ⟨w0, w1, w2, w3, w4, z, hz⟩ := g
  exact ⟨_, _, _, _, _, _, _, _, z⟩
theorem pX0_solve {h : mH} {Q : Option Value → mH → Prop} {ow : Nat → Nat} {a ρ : Nat} {tf : Int32} {r : Nat → Int64} {pa my : Nat → Int32} {f n m c : Nat} {K O : Nat → Nat} {v0 v1 v2 v3 v4 : Nat → Int32} {vc vk vh : Int32} {s : Nat} (zv : zV ow h v0 v1 v2 v3 v4 vc vk vh) (tb : tbR ow h a ρ tf r pa my f n m c K O) (hρ : 11 ≤ ρ) (hs : s < 64) (hsub : ∀ p, s.testBit p = true → (exE r f).testBit p = true) (hq : ∀ h' L hop, cFr [2] 0 ow h ow h' → svR ow h' c K L hop → coP r pa my f s L hop → Q none h') : Wp mX0_solve 2 51 0 [some (.ref 109), some (.ref a), some (.int (nI s)), none, none] [] h Q := by
  obtain ⟨tv, ru⟩ := tb.V
  have hc := tv.c
  refine pX0_solve0 zv tv hρ hs ru.1 (fun h' w0 w1 w2 w3 w4 M g f1 zv1 fs dp rw9 => ?_)
  have hg := fs.1.1
  have hp := pcb_le g
  have cs := csum_M fs hc.1 dp 7 g (by omega) hg (and_self0 hg)
  refine hq h' _ (s &&& (63 - g)) f1 ⟨w0, w1, w2, w3, w4, by rw [cs.1]; exact zv1, ⟨by omega, Nat.lt_of_le_of_lt Nat.and_le_left hs⟩, rw9⟩ ?_
  have hgo := fs_go (K := K) fs
  refine ⟨bO K w0, fun d => M (g &&& (63 - d)), fs_bst ru hc.1 (fun i hi => (hc.2 i hi).1) hs hsub fs, by rw [hgo]; exact dp_cd fs dp, ?_, by rw [hgo]⟩
  rw [hgo, dp_ls fs dp 7 0 (by decide) (Nat.zero_and _), and_63 hg]
def riI (r : Nat → Int64) (pa my : Nat → Int32) (f all : Nat) (L : List Nat) (lf i : Nat) : Prop := (lf < 64 ∧ ∀ p, lf.testBit p = true → all.testBit p = true) ∧ ∀ p, p < 6 → all.testBit p = true → (lf.testBit p = true ∧ roF r pa my f p L = roF r pa my f p (L.drop i)) ∨ (lf.testBit p = false ∧ roF r pa my f p L = true)
theorem ri_bad {r : Nat → Int64} {pa my : Nat → Int32} {f all : Nat} {L : List Nat} {lf i x : Nat} (q : riI r pa my f all L lf i) (hi : i < L.length) (ex : L.getD i 0 = x) (hb : 0 < lf &&& tvm r pa my f (exE r f) 2 x 6) : ¬ ∀ p, p < 6 → all.testBit p = true → roF r pa my f p L = true := by
  intro hall
  obtain ⟨p, h1, h2⟩ := and_ne.mp (show lf &&& tvm r pa my f (exE r f) 2 x 6 ≠ 0 by omega)
  rw [tvm_tb, decide_eq_true_iff] at h2
  have ha := q.1.2 p h1
  have h3 := hall p h2.1 ha
  rcases q.2 p h2.1 ha with ⟨_, e⟩ | ⟨e, _⟩
  · rw [e, drop_s hi, ex] at h3
    have : roF r pa my f p (x :: L.drop (i + 1)) = false := if_pos h2.2.2
    rw [this] at h3; cases h3
  · rw [h1] at e; cases e
theorem ri_st {r : Nat → Int64} {pa my : Nat → Int32} {f all : Nat} {L : List Nat} {lf i x : Nat} (hsub : ∀ p, all.testBit p = true → (exE r f).testBit p = true) (q : riI r pa my f all L lf i) (hi : i < L.length) (ex : L.getD i 0 = x) (hb : lf &&& tvm r pa my f (exE r f) 2 x 6 = 0) : riI r pa my f all L (lf &&& (63 - tvm r pa my f (exE r f) 1 x 6)) (i + 1) := by
  have hR : tvm r pa my f (exE r f) 1 x 6 < 64 := tvm_lt 6 (by decide)
  have htb : ∀ p, p < 6 → all.testBit p = true → (tvm r pa my f (exE r f) 1 x 6).testBit p = decide (tvK r pa my f p x = 1) := fun p hp ha => by
    rw [tvm_tb]
    exact decide_eq_decide.mpr ⟨fun z => z.2.2, fun z => ⟨hp, hsub p ha, z⟩⟩
  refine ⟨⟨Nat.lt_of_le_of_lt Nat.and_le_left q.1.1, fun p h => ?_⟩, fun p hp ha => ?_⟩
  · rw [Nat.testBit_and, Bool.and_eq_true] at h
    exact q.1.2 p h.1
  · rw [Nat.testBit_and, tb_not hR, htb p hp ha, decide_eq_true hp, Bool.true_and]
    rcases q.2 p hp ha with ⟨h1, h2⟩ | ⟨h1, h2⟩
    · have h3 : tvK r pa my f p x ≠ 2 := fun z => absurd hb (and_ne.mpr ⟨p, h1, (tvm_tb 6 p).trans (decide_eq_true ⟨hp, hsub p ha, z⟩)⟩)
      rw [h1, Bool.true_and]
      rw [drop_s hi, ex] at h2
      have h4 : roF r pa my f p (x :: L.drop (i + 1)) = if tvK r pa my f p x = 1 then true else roF r pa my f p (L.drop (i + 1)) := if_neg h3
      rw [h4] at h2
      by_cases c : tvK r pa my f p x = 1
      · rw [if_pos c] at h2
        exact Or.inr ⟨by rw [decide_eq_true c]; rfl, h2⟩
      · rw [if_neg c] at h2
        exact Or.inl ⟨by rw [decide_eq_false c]; rfl, h2⟩
    · rw [h1]
      exact Or.inr ⟨rfl, h2⟩
theorem ri_0 {r : Nat → Int64} {pa my : Nat → Int32} {f all : Nat} {L : List Nat} (h : all < 64) : riI r pa my f all L all 0 := ⟨⟨h, fun _ z => z⟩, fun p hp ha => Or.inl ⟨ha, rfl⟩⟩
theorem ri_end {r : Nat → Int64} {pa my : Nat → Int32} {f all : Nat} {L : List Nat} {lf i : Nat} (q : riI r pa my f all L lf i) (hi : L.length ≤ i) : lf = 0 ↔ ∀ p, p < 6 → all.testBit p = true → roF r pa my f p L = true := by
  constructor
  · intro e p hp ha
    rcases q.2 p hp ha with ⟨h1, h2⟩ | ⟨h1, h2⟩
    · rw [e, Nat.zero_testBit] at h1; cases h1
    · exact h2
  · intro h
    apply Classical.byContradiction
    intro z
    obtain ⟨p, hp⟩ := Nat.exists_testBit_of_ne_zero z
    have h6 := tb6 q.1.1 hp
    have ha := q.1.2 p hp
    rcases q.2 p h6 ha with ⟨h1, h2⟩ | ⟨h1, h2⟩
    · rw [List.drop_eq_nil_of_le hi, h p h6 ha] at h2; cases h2
    · rw [hp] at h1; cases h1
set_option maxRecDepth 20000 in
theorem pX0_isRightOn {h : mH} {Q : Option Value → mH → Prop} {ow : Nat → Nat} {a ρ : Nat} {tf : Int32} {r : Nat → Int64} {pa my : Nat → Int32} {f n m c : Nat} {K O : Nat → Nat} {L : List Nat} {hop all : Nat} (sv : svR ow h c K L hop) (tb : tbR ow h a ρ tf r pa my f n m c K O) (ha : all < 64) (hsub : ∀ p, all.testBit p = true → (exE r f).testBit p = true) (ht : (∀ p, p < 6 → all.testBit p = true → roF r pa my f p L = true) → Q (some (.int (nI 1))) h) (hf : ¬ (∀ p, p < 6 → all.testBit p = true → roF r pa my f p L = true) → Q (some (.int (nI 0))) h) : Wp mX0_isRightOn 0 0 0 [some (.ref 109), some (.ref a), some (.int (nI all)), none, none] [] h Q := by
  obtain ⟨tv, ru⟩ := tb.V
  obtain ⟨w0, w1, w2, w3, w4, zv, hL6, hrw⟩ := sv
  obtain ⟨n9, m9, a2, a3, a4, a5, a6, a7, tf9, tc, t2, t3, t4, t5, t6, t7, tp, zt, rfl, hcn, hR⟩ := tv
  dsimp only at hR
  have hloop : ∀  (t9 : Nat) (i : Nat) (lf : Nat), (i ≤ L.length) → (riI r pa my f all L lf i) → (L.length < i + t9) → Wp mX0_isRightOn 0 0 5 [some (.ref 109), some (.ref a), some (.int (nI all)), some (.int (nI lf)), some (.int (nI i))] [] h Q := by
    intro t9
    induction t9 with
    | zero => intros; omega
    | succ t9 ih =>
      intro i lf hi q9 hmz
      refine wp_iload dX0_isRightOn_5 rfl ?_
      refine wp_aload_n dX0_isRightOn_7 rfl rfl ?_
      refine wp_getIV dX0_isRightOn_8 lX0_42 rfl zv.o zv.f5 ?_
      refine wp_icmp_geN dX0_isRightOn_11 rfl rfl ⟨by omega, by omega⟩ (fun c2 => ?_) (fun c2 => ?_)
      · have hlf := q9.1.1
        have hre := ri_end q9 (by omega)
        refine wp_iload_n dX0_isRightOn_56 rfl rfl ?_
        refine wp_if_neN dX0_isRightOn_57 rfl (by omega) (fun c3 => ?_) (fun c3 => ?_)
        · refine wp_iconst (v := (nI 0)) dX0_isRightOn_64 (by decide +kernel) ?_
          refine wp_zreturn dX0_isRightOn_65 rfl (Or.inl rfl) ?_
          exact hf (fun z => by have := hre.mpr z; omega)
        · refine wp_iconst (v := (nI 1)) dX0_isRightOn_60 (by decide +kernel) ?_
          refine wp_goto dX0_isRightOn_61 ?_
          refine wp_zreturn dX0_isRightOn_65 rfl (Or.inr rfl) ?_
          exact ht (hre.mp (by omega))
      · obtain ⟨y, hy, ey, eK⟩ := hrw i (by omega)
        have hlf := q9.1.1
        have hW9 : lf &&& (tvm r pa my f (exE r f) 2 (K y) 6) < 64 := Nat.lt_of_le_of_lt Nat.and_le_left hlf
        refine wp_iload_n dX0_isRightOn_14 rfl rfl ?_
        refine wp_aload_n dX0_isRightOn_15 rfl rfl ?_
        refine wp_getR dX0_isRightOn_16 lX0_57 rfl zt.o zt.r5 ?_
        refine wp_aload_n dX0_isRightOn_19 rfl rfl ?_
        refine wp_getR dX0_isRightOn_20 lX0_24 rfl zv.o zv.r4 ?_
        refine wp_iload dX0_isRightOn_23 rfl ?_
        refine wp_ialdV dX0_isRightOn_25 zv.a4 rfl ⟨by omega, by omega⟩ ((congrFun zv.c4 _).trans ey) ?_
        refine wp_ialdV dX0_isRightOn_26 zt.a5 rfl ⟨by omega, by omega⟩ ((congrFun zt.c5 _).trans (hR y hy).2.2.2.1) ?_
        refine wp_iand dX0_isRightOn_27 ?_
        rw [nx_and]
        refine wp_if_eqN dX0_isRightOn_28 rfl (by omega) (fun c4 => ?_) (fun c4 => ?_)
        · refine wp_iload_n dX0_isRightOn_33 rfl rfl ?_
          refine wp_aload_n dX0_isRightOn_34 rfl rfl ?_
          refine wp_getR dX0_isRightOn_35 lX0_60 rfl zt.o zt.r4 ?_
          refine wp_aload_n dX0_isRightOn_38 rfl rfl ?_
          refine wp_getR dX0_isRightOn_39 lX0_24 rfl zv.o zv.r4 ?_
          refine wp_iload dX0_isRightOn_42 rfl ?_
          refine wp_ialdV dX0_isRightOn_44 zv.a4 rfl ⟨by omega, by omega⟩ ((congrFun zv.c4 _).trans ey) ?_
          refine wp_ialdV dX0_isRightOn_45 zt.a4 rfl ⟨by omega, by omega⟩ ((congrFun zt.c4 _).trans (hR y hy).2.2.1.1) ?_
          refine wp_iconst (v := (-1)) dX0_isRightOn_46 (by decide +kernel) ?_
          refine wp_ixor dX0_isRightOn_47 ?_
          refine wp_iand dX0_isRightOn_48 ?_
          rw [nx_not (hR y hy).2.2.1.2 hlf]
          refine wp_istore_n (ls1 := [_, _, _, some _, _]) dX0_isRightOn_49 rfl (by decide) rfl ?_
          refine wp_iinc1 (ls1 := [_, _, _, _, some _]) dX0_isRightOn_50 rfl (by decide) rfl ?_
          refine wp_goto dX0_isRightOn_53 ?_
          exact ih (i + 1) _ (by omega) (ri_st hsub q9 (by omega) eK (by omega)) (by omega)
        · refine wp_iconst (v := (nI 0)) dX0_isRightOn_31 (by decide +kernel) ?_
          refine wp_zreturn dX0_isRightOn_32 rfl (Or.inl rfl) ?_
          exact hf (ri_bad q9 (by omega) eK (by assumption))
  refine wp_iload_n dX0_isRightOn_0 rfl rfl ?_
  refine wp_istore_n (ls1 := [_, _, _, some _, _]) dX0_isRightOn_1 rfl (by decide) rfl ?_
  refine wp_iconst (v := (nI 0)) dX0_isRightOn_2 (by decide +kernel) ?_
  refine wp_istore (ls1 := [_, _, _, _, some _]) dX0_isRightOn_3 (by decide) rfl ?_
  exact hloop (L.length + 1) 0 all (by omega) (ri_0 ha) (by omega)
