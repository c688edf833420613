/-! ===== cover, covers, contradict, without, enough ===== -/
theorem cover_no {r : Nat → Int64} {F : Nat} {pa my : Nat → Int32} {x w : Int32} (h : ix x F = none ∨ ix w 3 = none) : ∀ v, spCover r F pa my x w v → v = -1 := by
  intro v hv
  unfold spCover at hv
  rcases h with h | h
  · rw [h] at hv; exact hv
  · rw [h] at hv
    cases z : ix x F with
    | none => rw [z] at hv; exact hv
    | some f => rw [z] at hv; exact hv
theorem cover_v {r : Nat → Int64} {F : Nat} {pa my : Nat → Int32} {f j : Nat} {L : List Nat} {hop : Nat} (hd : sOK r F pa my) (hf : f < F) (hj : j < 3) (co : coP r pa my f (exE r f) L hop) : ∀ v, spCover r F pa my (nI f) (nI j) v → v = (if j = 0 then nI L.length else if j = 1 then nI (csum L L.length) else nI hop) := by
  have hF4 := hd.f4
  intro v hv
  unfold spCover at hv
  rw [ix_nI hf (by omega), ix_nI hj (by decide)] at hv
  obtain ⟨L', hop', h1, h2⟩ := hv
  obtain ⟨e1, e2⟩ := coP_un co h1
  subst e1 e2
  exact h2
theorem covers_no {r : Nat → Int64} {F : Nat} {pa my : Nat → Int32} {x y w : Int32} (h : ix x F = none) : ∀ v, spCovers r F pa my x y w v → v = -2 := by
  intro v hv
  unfold spCovers at hv
  rw [h] at hv; exact hv
theorem covers_out {r : Nat → Int64} {F : Nat} {pa my : Nat → Int32} {f : Nat} {y w : Int32} {L : List Nat} {hop : Nat} (hd : sOK r F pa my) (hf : f < F) (co : coP r pa my f (exE r f) L hop) (h : ix y L.length = none) : ∀ v, spCovers r F pa my (nI f) y w v → v = -2 := by
  have hF4 := hd.f4
  intro v hv
  unfold spCovers at hv
  rw [ix_nI hf (by omega)] at hv
  cases z : ix w 6 with
  | none => rw [z] at hv; exact hv
  | some j =>
    rw [z] at hv
    obtain ⟨L', hop', h1, h2⟩ := hv
    obtain ⟨e1, e2⟩ := coP_un co h1
    subst e1 e2
    rw [h] at h2
    exact h2
theorem covers_in {r : Nat → Int64} {F : Nat} {pa my : Nat → Int32} {f i x : Nat} {w : Int32} {L : List Nat} {hop : Nat} (hd : sOK r F pa my) (hf : f < F) (co : coP r pa my f (exE r f) L hop) (hL : L.length ≤ 6) (hi : i < L.length) (ex : L.getD i 0 = x) : ∀ v, spCovers r F pa my (nI f) (nI i) w v → v = if w = nI 5 then nI (tvm r pa my f (exE r f) 1 x 6) else dtV x w := by
  have hF4 := hd.f4
  intro v hv
  unfold spCovers at hv
  rw [ix_nI hf (by omega)] at hv
  rcases ix_cases (x := w) (n := 6) (by decide) with z | ⟨j, hj, e⟩
  · rw [z] at hv
    rw [if_neg (fun e => by rw [e, ix_nI (n := 6) (by decide) (by decide)] at z; cases z)]
    rw [dtV_n (ix_none (by decide) (fun j hj ej => by rw [ej, ix_nI (n := 6) (by omega) (by decide)] at z; cases z))]
    exact hv
  · subst e
    rw [ix_nI hj (by decide)] at hv
    obtain ⟨L', hop', h1, h2⟩ := hv
    obtain ⟨e1, e2⟩ := coP_un co h1
    subst e1 e2
    rw [ix_nI hi (by omega)] at h2
    have h2 : v = (if j < 4 then itm (kI (L.getD i 0) j) else if j = 4 then nI (L.getD i 0 / 4294967296) else nI (tvm r pa my f (exE r f) 1 (L.getD i 0) 6)) := h2
    rw [ex] at h2
    rw [h2]
    by_cases c : j = 5
    · subst c
      rw [if_pos rfl, if_neg (by decide), if_neg (by decide)]
    · rw [if_neg (fun e => c ((nI_eq (by omega) (by decide)).mp e))]
      unfold dtV
      rw [ix_nI (n := 5) (by omega) (by decide)]
      by_cases c4 : j = 4
      · subst c4; rfl
      · rw [if_pos (show j < 4 by omega)]
        show _ = if j = 4 then _ else _
        rw [if_neg c4]
theorem con_iff {r : Nat → Int64} {pa my : Nat → Int32} {f s : Nat} {L : List Nat} {hop : Nat} (hs : s < 64) (co : coP r pa my f s L hop) : hop = s ↔ ¬ ∃ x, gdK r pa my f s x ∧ onK r pa my f s x ≠ 0 := by
  obtain ⟨B, D, hB, _, _, e⟩ := co
  subst e
  have hg := goN_lt (B := B) 64 (by decide)
  constructor
  · rintro e ⟨x, hx, h0⟩
    have hk : onK r pa my f s x < 64 := tvm_lt 6 (by decide)
    rcases hB.2 _ hk with ⟨_, h1⟩ | ⟨m, h1, _⟩
    · exact h0 (h1 x hx rfl)
    · obtain ⟨p, hp⟩ := Nat.exists_testBit_of_ne_zero h0
      have h2 : (goN B 64).testBit p = true := (goN_tb 64 p).mpr ⟨_, hk, (by rw [h1]; exact fun z => (by cases z)), hp⟩
      have h3 : s.testBit p = true := by
        have hp : (tvm r pa my f s 1 x 6).testBit p = true := hp
        rw [tvm_tb, decide_eq_true_iff] at hp
        exact hp.2.1
      have h4 : (s &&& (63 - goN B 64)).testBit p = true := by rw [e]; exact h3
      rw [Nat.testBit_and, tb_not hg, h2] at h4
      simp at h4
  · intro h
    have h0 : goN B 64 = 0 := Nat.eq_of_testBit_eq (fun p => by
      rw [Nat.zero_testBit]
      apply Bool.eq_false_iff.mpr
      intro z
      obtain ⟨k, h1, h2, _⟩ := (goN_tb 64 p).mp z
      rcases hB.2 k h1 with ⟨h3, _⟩ | ⟨m, _, _, h4, h5, h6, _⟩
      · exact h2 h3
      · exact h ⟨m, h5, by rw [h6]; omega⟩)
    rw [h0]
    exact and_63 hs
theorem con_v {r : Nat → Int64} {F : Nat} {pa my : Nat → Int32} {f p q : Nat} {L : List Nat} {hop : Nat} (hd : sOK r F pa my) (hf : f < F) (hp : p < rP r) (hq : q < rP r) (hpq : p ≠ q) (h1 : 0 < rM r f p) (h2 : 0 < rM r f q) (hs : 2 ^ p ||| 2 ^ q < 64) (co : coP r pa my f (2 ^ p ||| 2 ^ q) L hop) : ∀ v, spContra r F pa my (nI f) (nI p) (nI q) v → v = if hop = 2 ^ p ||| 2 ^ q then nI 1 else nI 0 := by
  have hF4 := hd.f4
  have hP6 := hd.w.1.2
  intro v hv
  unfold spContra at hv
  rw [ix_nI hf (by omega), ix_nI hp (by omega), ix_nI hq (by omega)] at hv
  have hv : if p = q ∨ rM r f p = 0 ∨ rM r f q = 0 then v = -1 else ∃ n K, enP r pa f (2 ^ p ||| 2 ^ q) n K ∧ v = (if (∃ i, i < n ∧ tvm r pa my f (2 ^ p ||| 2 ^ q) 2 (K i) 6 = 0 ∧ tvm r pa my f (2 ^ p ||| 2 ^ q) 1 (K i) 6 ≠ 0) then nI 0 else nI 1) := hv
  rw [if_neg (by omega)] at hv
  obtain ⟨n, K, e, ev⟩ := hv
  have hc := con_iff hs co
  have key : (∃ i, i < n ∧ tvm r pa my f (2 ^ p ||| 2 ^ q) 2 (K i) 6 = 0 ∧ tvm r pa my f (2 ^ p ||| 2 ^ q) 1 (K i) 6 ≠ 0) ↔ ∃ x, gdK r pa my f (2 ^ p ||| 2 ^ q) x ∧ onK r pa my f (2 ^ p ||| 2 ^ q) x ≠ 0 := by
    constructor
    · rintro ⟨i, hi, a, b⟩
      refine ⟨K i, ⟨e.2.2.2.2 i hi, fun y hy hb z => ?_⟩, b⟩
      have : (tvm r pa my f (2 ^ p ||| 2 ^ q) 2 (K i) 6).testBit y = true := (tvm_tb 6 y).trans (decide_eq_true ⟨hy, hb, z⟩)
      rw [a, Nat.zero_testBit] at this; cases this
    · rintro ⟨x, hx, b⟩
      obtain ⟨⟨y, hy, hb, hn⟩, h3⟩ := hx
      obtain ⟨i, hi, ei⟩ := e.2.2.2.1 y hy hb x hn
      subst ei
      refine ⟨i, hi, Nat.eq_of_testBit_eq (fun y => ?_), b⟩
      rw [tvm_tb, Nat.zero_testBit]
      exact decide_eq_false (fun z => h3 y z.1 z.2.1 z.2.2)
  rw [ev]
  by_cases c : ∃ x, gdK r pa my f (2 ^ p ||| 2 ^ q) x ∧ onK r pa my f (2 ^ p ||| 2 ^ q) x ≠ 0
  · rw [if_pos (key.mpr c), if_neg (fun z => hc.mp z c)]
  · rw [if_neg (fun z => c (key.mp z)), if_pos (hc.mpr c)]
theorem con_1 {r : Nat → Int64} {F : Nat} {pa my : Nat → Int32} {x y z : Int32} (h : ix x F = none) : ∀ v, spContra r F pa my x y z v → v = -1 := by
  intro v hv
  unfold spContra at hv
  rw [h] at hv; exact hv
theorem con_2 {r : Nat → Int64} {F : Nat} {pa my : Nat → Int32} {x y : Int32} : ∀ v, spContra r F pa my x y y v → v = -1 := by
  intro v hv
  unfold spContra at hv
  cases a : ix x F with
  | none => rw [a] at hv; exact hv
  | some f =>
    cases b : ix y (rP r) with
    | none => rw [a, b] at hv; exact hv
    | some p =>
      rw [a, b] at hv
      have hv : if p = p ∨ rM r f p = 0 ∨ rM r f p = 0 then v = -1 else _ := hv
      rw [if_pos (Or.inl rfl)] at hv
      exact hv
theorem con_3 {r : Nat → Int64} {F : Nat} {pa my : Nat → Int32} {f : Nat} {y z : Int32} (hd : sOK r F pa my) (hf : f < F) (h : (ix y (rP r) = none ∨ ∃ p, p < rP r ∧ y = nI p ∧ rM r f p = 0) ∨ (ix z (rP r) = none ∨ ∃ p, p < rP r ∧ z = nI p ∧ rM r f p = 0)) : ∀ v, spContra r F pa my (nI f) y z v → v = -1 := by
  have hF4 := hd.f4
  have hP6 := hd.w.1.2
  intro v hv
  unfold spContra at hv
  rw [ix_nI hf (by omega)] at hv
  cases a : ix y (rP r) with
  | none => rw [a] at hv; exact hv
  | some p =>
    cases b : ix z (rP r) with
    | none => rw [a, b] at hv; exact hv
    | some q =>
      rw [a, b] at hv
      have hv : if p = q ∨ rM r f p = 0 ∨ rM r f q = 0 then v = -1 else _ := hv
      rw [if_pos] at hv
      · exact hv
      · rcases h with (h | ⟨p', h1, h2, h3⟩) | (h | ⟨p', h1, h2, h3⟩)
        · rw [h] at a; cases a
        · rw [h2, ix_nI h1 (by omega)] at a
          injection a with a
          subst a
          exact Or.inr (Or.inl h3)
        · rw [h] at b; cases b
        · rw [h2, ix_nI h1 (by omega)] at b
          injection b with b
          subst b
          exact Or.inr (Or.inr h3)
theorem pw_or {p q : Nat} (hp : p < 6) (hq : q < 6) : 2 ^ p ||| 2 ^ q < 64 := by
  have : ∀ p : Fin 6, ∀ q : Fin 6, 2 ^ p.val ||| 2 ^ q.val < 64 := by decide +kernel
  exact this ⟨p, hp⟩ ⟨q, hq⟩
theorem pw_sub {r : Nat → Int64} {f p q : Nat} (h1 : p < rP r ∧ 0 < rM r f p) (h2 : q < rP r ∧ 0 < rM r f q) : ∀ j, (2 ^ p ||| 2 ^ q).testBit j = true → (exE r f).testBit j = true := by
  intro j hj
  rw [Nat.testBit_or, Nat.testBit_two_pow, Nat.testBit_two_pow, Bool.or_eq_true, decide_eq_true_iff, decide_eq_true_iff] at hj
  rcases hj with rfl | rfl
  · exact exE_of h1
  · exact exE_of h2
theorem wo_no {r : Nat → Int64} {F : Nat} {pa my : Nat → Int32} {x y : Int32} (hd : sOK r F pa my) (h : ix y F = none ∨ ∃ f, f < F ∧ y = nI f ∧ (ix x (rP r) = none ∨ ∃ p, p < rP r ∧ x = nI p ∧ rM r f p = 0)) : ∀ v, spWithout r F pa my x y v → v = -1 := by
  have hF4 := hd.f4
  have hP6 := hd.w.1.2
  intro v hv
  unfold spWithout at hv
  rcases h with h | ⟨f, hf, e, h⟩
  · rw [h] at hv
    cases z : ix x (rP r) with
    | none => rw [z] at hv; exact hv
    | some p => rw [z] at hv; exact hv
  · rw [e, ix_nI hf (by omega)] at hv
    rcases h with h | ⟨p, hp, e2, h⟩
    · rw [h] at hv; exact hv
    · rw [e2, ix_nI hp (by omega)] at hv
      have hv : if rM r f p = 0 then v = -1 else _ := hv
      rw [if_pos h] at hv
      exact hv
theorem pcb_6 {s : Nat} (hs : s < 64) : pcb s = pc6 s 16 := by
  have : ∀ s : Fin 64, pcb s.val = pc6 s.val 16 := by decide +kernel
  exact this ⟨s, hs⟩
theorem wo_v {r : Nat → Int64} {F : Nat} {pa my : Nat → Int32} {p f : Nat} {L : List Nat} {hop : Nat} (hd : sOK r F pa my) (hp : p < rP r) (hf : f < F) (hm : 0 < rM r f p) (h64 : hop < 64) (co : coP r pa my f (exE r f &&& (63 - 2 ^ p)) L hop) : ∀ v, spWithout r F pa my (nI p) (nI f) v → v = nI (pcb hop) := by
  have hF4 := hd.f4
  have hP6 := hd.w.1.2
  intro v hv
  unfold spWithout at hv
  rw [ix_nI hp (by omega), ix_nI hf (by omega)] at hv
  have hv : if rM r f p = 0 then v = -1 else ∃ L hop, coP r pa my f (exE r f &&& (63 - 2 ^ p)) L hop ∧ v = nI (pc6 hop 16) := hv
  rw [if_neg (by omega)] at hv
  obtain ⟨L', hop', h1, h2⟩ := hv
  obtain ⟨e1, e2⟩ := coP_un co h1
  subst e1 e2
  rw [h2, pcb_6 h64]
theorem pw_lt {p : Nat} (hp : p < 6) : 2 ^ p < 64 := by
  have : ∀ p : Fin 6, 2 ^ p.val < 64 := by decide +kernel
  exact this ⟨p, hp⟩
theorem and_sb {s k : Nat} : ∀ j, (s &&& k).testBit j = true → s.testBit j = true := fun j h => by
  rw [Nat.testBit_and, Bool.and_eq_true] at h; exact h.1
set_option maxRecDepth 20000 in
theorem pX11_cover {h : mH} {Q : Option Value → mH → Prop} {ow : Nat → Nat} {F fa o1 d1 u1 : Nat} {pa my : Nat → Int32} {r : Nat → Int64} {pl : Nat → Int64} {gb ge : Int32} {gs gn : Int64} {gf gt : Int32} {e w : Nat} {v0 v1 v2 v3 v4 : Nat → Int32} {vc vk vh : Int32} {x y : Int32} (e9 : eS ow h F pa my r fa o1 d1 u1) (hd : sOK r F pa my) (zg : zG ow h pl gb ge gs gn gf gt) (tw : tbW ow h r pa my F e w) (hw : w ≤ 8000000) (zv : zV ow h v0 v1 v2 v3 v4 vc vk vh) (hq : ∀ h' ow' u v, cFr [1, 2, 11, 12, 13, 14] u ow h ow' h' → tbW ow' h' r pa my F e w → (∃ pl gb ge gs gn gf gt, zG ow' h' pl gb ge gs gn gf gt) → (∃ v0 v1 v2 v3 v4 vc vk vh, zV ow' h' v0 v1 v2 v3 v4 vc vk vh) → (∀ v', spCover r F pa my x y v' → v' = v) → Q (some (.int v)) h') : Wp mX11_cover 7 185 0 [some (.ref 0), some (.int x), some (.int y)] [] h Q := by
  have hP6 := hd.w.1.2
  have hF4 := hd.f4
  refine wp_aload_n dX11_cover_0 rfl rfl ?_
  refine wp_getR dX11_cover_1 lX11_20 rfl e9.oo e9.f4 ?_
  refine wp_iload_n dX11_cover_4 rfl rfl ?_
  refine wp_cV1 0 0 [some _, some _] dX11_cover_5 tX1_has rfl (by decide) nX1_has vX1_has lX11_139 ⟨by decide, by decide⟩ (Nat.le_of_ble_eq_true rfl) e9.fl.oo (Nat.le_of_ble_eq_true rfl) rfl ?_
  refine pX1_has e9.fl hF4 (fun f1 hf1 ef1 => ?_) (fun xn1 => ?_)
  · subst ef1
    intro _ _
    refine wp_if_ne dX11_cover_8 (fun _ => ?_) (fun q => absurd q (by decide +kernel))
    refine wp_aload_n dX11_cover_13 rfl rfl ?_
    refine wp_getR dX11_cover_14 lX11_53 rfl e9.oo e9.r9 ?_
    refine wp_aload_n dX11_cover_17 rfl rfl ?_
    refine wp_iload_n dX11_cover_18 rfl rfl ?_
    refine wp_cV1 6 162 [some _, some _, none, none] dX11_cover_19 tX11_tableOf rfl (by decide) nX11_tableOf vX11_tableOf lX11_249 ⟨by decide, by decide⟩ (Nat.le_of_ble_eq_true rfl) e9.oo (Nat.le_of_ble_eq_true rfl) rfl ?_
    refine pX11_tableW e9 hd zg tw hw (by omega) (fun hh2 ow2 u2 n2 m2 cc2 K2 O2 f2 tw_2 tb_2 gg2 => ?_)
    intro _ _
    obtain ⟨_, _, _, _, _, _, _, zg_2⟩ := gg2
    have e9_2 := e9.fr f2 (by decide)
    have zv_2 := zv.fr f2 (by decide)
    refine wp_aload_n dX11_cover_22 rfl rfl ?_
    refine wp_getR dX11_cover_23 lX11_34 rfl e9_2.oo e9_2.r6 ?_
    refine wp_cV0 2 43 [some _] dX11_cover_26 tX3_now rfl (by decide) nX3_now vX3_now lX11_101 ⟨by decide, by decide⟩ (Nat.le_of_ble_eq_true rfl) e9_2.hh.o (Nat.le_of_ble_eq_true rfl) rfl ?_
    refine pX3_now e9_2.hh e9_2.kb e9_2.od.1 e9_2.od.2 ?_
    intro _ _
    refine wp_iload_n dX11_cover_29 rfl rfl ?_
    refine wp_cV1 2 43 [some _, some _, none, none] dX11_cover_30 tX8_examplesOf rfl (by decide) nX8_examplesOf vX8_examplesOf lX11_154 ⟨by decide, by decide⟩ (Nat.le_of_ble_eq_true rfl) e9_2.st.oo (Nat.le_of_ble_eq_true rfl) rfl ?_
    refine pX8_examplesOf e9_2.st hd (by omega) ?_
    intro _ _
    refine wp_cV2 2 51 [some _, some _, some _, none, none] dX11_cover_33 tX0_solve rfl (by decide) nX0_solve vX0_solve lX11_253 ⟨by decide, by decide⟩ (Nat.le_of_ble_eq_true rfl) zv_2.o (Nat.le_of_ble_eq_true rfl) rfl ?_
    refine pX0_solve zv_2 tb_2 (by omega) (exE_lt hd) (fun _ z => z) (fun hh3 L3 hop3 f3 sv3 co3 => ?_)
    intro _ _
    have e9_3 := e9_2.fr f3 (by decide)
    have zg_3 := zg_2.fr f3 (rnS (by omega) rn0)
    have tw_3 := tw_2.fr f3 (fun f9 hf9 => by simp <;> omega)
    have tb_3 := tb_2.fr f3 (rnS (by omega) rn0)
    obtain ⟨w03, w13, w23, w33, w43, zv3, hl3, hr3⟩ := id sv3
    refine wp_iload_n dX11_cover_36 rfl rfl ?_
    rcases ix_cases (x := y) (n := 3) (by decide) with xn4 | ⟨j4, hj4, ej4⟩
    · refine wp_tableOut (t := 88) dX11_cover_37 (ix_out xn4) (by decide +kernel) ?_
      refine wp_iconst (v := (-1)) dX11_cover_88 (by decide +kernel) ?_
      refine wp_ireturn dX11_cover_89 rfl ?_
      exact hq _ _ _ _ ((f2.up (by decide) (Nat.le_refl _)).tr (f3.up (by decide) (Nat.le_refl _))) tw_3 ⟨_, _, _, _, _, _, _, zg_3⟩ ⟨_, _, _, _, _, _, _, _, zv3⟩ (cover_no (Or.inr xn4))
    · subst ej4
      rcases (by omega : j4 = 0 ∨ j4 = 1 ∨ j4 = 2) with rfl | rfl | rfl
      · refine wp_tableIn (off := 27) (t := 64) dX11_cover_37 (by decide +kernel) (by decide +kernel) (by decide +kernel) (by decide +kernel) ?_
        refine wp_aload_n dX11_cover_64 rfl rfl ?_
        refine wp_getR dX11_cover_65 lX11_53 rfl e9_3.oo e9_3.r9 ?_
        refine wp_getIV dX11_cover_68 lX11_314 rfl zv3.o zv3.f5 ?_
        refine wp_ireturn dX11_cover_71 rfl ?_
        exact hq _ _ _ _ ((f2.up (by decide) (Nat.le_refl _)).tr (f3.up (by decide) (Nat.le_refl _))) tw_3 ⟨_, _, _, _, _, _, _, zg_3⟩ ⟨_, _, _, _, _, _, _, _, zv3⟩ (fun v9 h9 => (cover_v hd (by omega) (by decide) co3 v9 h9).trans rfl)
      · refine wp_tableIn (off := 35) (t := 72) dX11_cover_37 (by decide +kernel) (by decide +kernel) (by decide +kernel) (by decide +kernel) ?_
        refine wp_aload_n dX11_cover_72 rfl rfl ?_
        refine wp_getR dX11_cover_73 lX11_53 rfl e9_3.oo e9_3.r9 ?_
        refine wp_getIV dX11_cover_76 lX11_315 rfl zv3.o zv3.f6 ?_
        refine wp_ireturn dX11_cover_79 rfl ?_
        exact hq _ _ _ _ ((f2.up (by decide) (Nat.le_refl _)).tr (f3.up (by decide) (Nat.le_refl _))) tw_3 ⟨_, _, _, _, _, _, _, zg_3⟩ ⟨_, _, _, _, _, _, _, _, zv3⟩ (fun v9 h9 => (cover_v hd (by omega) (by decide) co3 v9 h9).trans rfl)
      · refine wp_tableIn (off := 43) (t := 80) dX11_cover_37 (by decide +kernel) (by decide +kernel) (by decide +kernel) (by decide +kernel) ?_
        refine wp_aload_n dX11_cover_80 rfl rfl ?_
        refine wp_getR dX11_cover_81 lX11_53 rfl e9_3.oo e9_3.r9 ?_
        refine wp_getIV dX11_cover_84 lX11_318 rfl zv3.o zv3.f7 ?_
        refine wp_ireturn dX11_cover_87 rfl ?_
        exact hq _ _ _ _ ((f2.up (by decide) (Nat.le_refl _)).tr (f3.up (by decide) (Nat.le_refl _))) tw_3 ⟨_, _, _, _, _, _, _, zg_3⟩ ⟨_, _, _, _, _, _, _, _, zv3⟩ (fun v9 h9 => (cover_v hd (by omega) (by decide) co3 v9 h9).trans rfl)
  · intro _ _
    refine wp_if_ne dX11_cover_8 (fun q => absurd q (by decide +kernel)) (fun _ => ?_)
    refine wp_iconst (v := (-1)) dX11_cover_11 (by decide +kernel) ?_
    refine wp_ireturn dX11_cover_12 rfl ?_
    exact hq _ _ 0 _ cFr.rf tw ⟨_, _, _, _, _, _, _, zg⟩ ⟨_, _, _, _, _, _, _, _, zv⟩ (cover_no (Or.inl xn1))
set_option maxRecDepth 20000 in
theorem pX11_covers {h : mH} {Q : Option Value → mH → Prop} {ow : Nat → Nat} {F fa o1 d1 u1 : Nat} {pa my : Nat → Int32} {r : Nat → Int64} {pl : Nat → Int64} {gb ge : Int32} {gs gn : Int64} {gf gt : Int32} {e w : Nat} {v0 v1 v2 v3 v4 : Nat → Int32} {vc vk vh : Int32} {x y z : Int32} (e9 : eS ow h F pa my r fa o1 d1 u1) (hd : sOK r F pa my) (zg : zG ow h pl gb ge gs gn gf gt) (tw : tbW ow h r pa my F e w) (hw : w ≤ 8000000) (zv : zV ow h v0 v1 v2 v3 v4 vc vk vh) (hq : ∀ h' ow' u v, cFr [1, 2, 11, 12, 13, 14] u ow h ow' h' → tbW ow' h' r pa my F e w → (∃ pl gb ge gs gn gf gt, zG ow' h' pl gb ge gs gn gf gt) → (∃ v0 v1 v2 v3 v4 vc vk vh, zV ow' h' v0 v1 v2 v3 v4 vc vk vh) → (∀ v', spCovers r F pa my x y z v' → v' = v) → Q (some (.int v)) h') : Wp mX11_covers 7 185 0 [some (.ref 0), some (.int x), some (.int y), some (.int z), none, none] [] h Q := by
  have hP6 := hd.w.1.2
  have hF4 := hd.f4
  refine wp_aload_n dX11_covers_0 rfl rfl ?_
  refine wp_getR dX11_covers_1 lX11_20 rfl e9.oo e9.f4 ?_
  refine wp_iload_n dX11_covers_4 rfl rfl ?_
  refine wp_cV1 0 0 [some _, some _] dX11_covers_5 tX1_has rfl (by decide) nX1_has vX1_has lX11_139 ⟨by decide, by decide⟩ (Nat.le_of_ble_eq_true rfl) e9.fl.oo (Nat.le_of_ble_eq_true rfl) rfl ?_
  refine pX1_has e9.fl hF4 (fun f1 hf1 ef1 => ?_) (fun xn1 => ?_)
  · subst ef1
    intro _ _
    refine wp_if_ne dX11_covers_8 (fun _ => ?_) (fun q => absurd q (by decide +kernel))
    refine wp_aload_n dX11_covers_14 rfl rfl ?_
    refine wp_iload_n dX11_covers_15 rfl rfl ?_
    refine wp_cV1 6 162 [some _, some _, none, none] dX11_covers_16 tX11_tableOf rfl (by decide) nX11_tableOf vX11_tableOf lX11_249 ⟨by decide, by decide⟩ (Nat.le_of_ble_eq_true rfl) e9.oo (Nat.le_of_ble_eq_true rfl) rfl ?_
    refine pX11_tableW e9 hd zg tw hw (by omega) (fun hh2 ow2 u2 n2 m2 cc2 K2 O2 f2 tw_2 tb_2 gg2 => ?_)
    intro _ _
    obtain ⟨_, _, _, _, _, _, _, zg_2⟩ := gg2
    have e9_2 := e9.fr f2 (by decide)
    have zv_2 := zv.fr f2 (by decide)
    refine wp_astore (ls1 := [_, _, _, _, some _, _]) dX11_covers_19 (by decide) rfl ?_
    refine wp_aload_n dX11_covers_21 rfl rfl ?_
    refine wp_getR dX11_covers_22 lX11_53 rfl e9_2.oo e9_2.r9 ?_
    refine wp_aload dX11_covers_25 rfl ?_
    refine wp_aload_n dX11_covers_27 rfl rfl ?_
    refine wp_getR dX11_covers_28 lX11_34 rfl e9_2.oo e9_2.r6 ?_
    refine wp_cV0 2 43 [some _] dX11_covers_31 tX3_now rfl (by decide) nX3_now vX3_now lX11_101 ⟨by decide, by decide⟩ (Nat.le_of_ble_eq_true rfl) e9_2.hh.o (Nat.le_of_ble_eq_true rfl) rfl ?_
    refine pX3_now e9_2.hh e9_2.kb e9_2.od.1 e9_2.od.2 ?_
    intro _ _
    refine wp_iload_n dX11_covers_34 rfl rfl ?_
    refine wp_cV1 2 43 [some _, some _, none, none] dX11_covers_35 tX8_examplesOf rfl (by decide) nX8_examplesOf vX8_examplesOf lX11_154 ⟨by decide, by decide⟩ (Nat.le_of_ble_eq_true rfl) e9_2.st.oo (Nat.le_of_ble_eq_true rfl) rfl ?_
    refine pX8_examplesOf e9_2.st hd (by omega) ?_
    intro _ _
    refine wp_cV2 2 51 [some _, some _, some _, none, none] dX11_covers_38 tX0_solve rfl (by decide) nX0_solve vX0_solve lX11_253 ⟨by decide, by decide⟩ (Nat.le_of_ble_eq_true rfl) zv_2.o (Nat.le_of_ble_eq_true rfl) rfl ?_
    refine pX0_solve zv_2 tb_2 (by omega) (exE_lt hd) (fun _ z => z) (fun hh3 L3 hop3 f3 sv3 co3 => ?_)
    intro _ _
    have e9_3 := e9_2.fr f3 (by decide)
    have zg_3 := zg_2.fr f3 (rnS (by omega) rn0)
    have tw_3 := tw_2.fr f3 (fun f9 hf9 => by simp <;> omega)
    have tb_3 := tb_2.fr f3 (rnS (by omega) rn0)
    obtain ⟨w03, w13, w23, w33, w43, zv3, hl3, hr3⟩ := id sv3
    refine wp_iload_n dX11_covers_41 rfl rfl ?_
    refine wp_if_lt dX11_covers_42 (fun c3 => ?_) (fun c3 => ?_)
    · refine wp_bipush (v := (-2)) dX11_covers_56 (by decide +kernel) ?_
      refine wp_ireturn dX11_covers_58 rfl ?_
      exact hq _ _ _ _ ((f2.up (by decide) (Nat.le_refl _)).tr (f3.up (by decide) (Nat.le_refl _))) tw_3 ⟨_, _, _, _, _, _, _, zg_3⟩ ⟨_, _, _, _, _, _, _, _, zv3⟩ (covers_out hd (by omega) co3 (ix_lt0 c3))
    · refine wp_iload_n dX11_covers_45 rfl rfl ?_
      refine wp_aload_n dX11_covers_46 rfl rfl ?_
      refine wp_getR dX11_covers_47 lX11_53 rfl e9_3.oo e9_3.r9 ?_
      refine wp_getIV dX11_covers_50 lX11_314 rfl zv3.o zv3.f5 ?_
      refine wp_icmp_lt dX11_covers_53 (fun c5 => ?_) (fun c5 => ?_)
      · obtain ⟨j4, hj4, ej4⟩ := ix_lt (by omega) c3 c5
        subst ej4
        obtain ⟨y9, hy9, ey9, eK9⟩ := hr3 j4 (by omega)
        obtain ⟨n9, m9, a2, a3, a4, a5, a6, a7, tf9, tc9, t2, t3, t4, t5, t6, t7, tp9, zt9, rfl, hcn9, hR9⟩ := tb_3.V.1
        refine wp_aload_n dX11_covers_59 rfl rfl ?_
        refine wp_getR dX11_covers_60 lX11_53 rfl e9_3.oo e9_3.r9 ?_
        refine wp_getR dX11_covers_63 lX11_321 rfl zv3.o zv3.r4 ?_
        refine wp_iload_n dX11_covers_66 rfl rfl ?_
        refine wp_ialdV dX11_covers_67 zv3.a4 rfl ⟨by omega, by omega⟩ ((congrFun zv3.c4 _).trans ey9) ?_
        refine wp_istore (ls1 := [_, _, _, _, _, some _]) dX11_covers_68 (by decide) rfl ?_
        refine wp_iload_n dX11_covers_70 rfl rfl ?_
        refine wp_iconst (v := (nI 5)) dX11_covers_71 (by decide +kernel) ?_
        refine wp_icmp_ne dX11_covers_72 (fun c6 => ?_) (fun c6 => ?_)
        · refine wp_aload dX11_covers_86 rfl ?_
          refine wp_getR dX11_covers_88 lX11_327 rfl zt9.o zt9.r2 ?_
          refine wp_iload dX11_covers_91 rfl ?_
          refine wp_laldV dX11_covers_93 zt9.a2 rfl ⟨by omega, by omega⟩ ((congrFun zt9.c2 _).trans (hR9 y9 hy9).1.1) ?_
          refine wp_iload_n dX11_covers_94 rfl rfl ?_
          refine wp_cS2 1 22 [some _, none, some _] dX11_covers_95 tX11_detailOf sX11_detailOf lX11_283 ⟨by decide, by decide⟩ (Nat.le_of_ble_eq_true rfl) (Nat.le_of_ble_eq_true rfl) rfl ?_
          refine pX11_detailOf (hR9 y9 hy9).1.2 ?_
          intro _ _
          refine wp_ireturn dX11_covers_98 rfl ?_
          exact hq _ _ _ _ ((f2.up (by decide) (Nat.le_refl _)).tr (f3.up (by decide) (Nat.le_refl _))) tw_3 ⟨_, _, _, _, _, _, _, zg_3⟩ ⟨_, _, _, _, _, _, _, _, zv3⟩ (fun v9 h9 => (covers_in hd (by omega) co3 hl3.1 (by omega) eK9 v9 h9).trans (if_neg (by assumption)))
        · refine wp_aload dX11_covers_75 rfl ?_
          refine wp_getR dX11_covers_77 lX11_324 rfl zt9.o zt9.r4 ?_
          refine wp_iload dX11_covers_80 rfl ?_
          refine wp_ialdV dX11_covers_82 zt9.a4 rfl ⟨by omega, by omega⟩ ((congrFun zt9.c4 _).trans (hR9 y9 hy9).2.2.1.1) ?_
          refine wp_goto dX11_covers_83 ?_
          refine wp_ireturn dX11_covers_98 rfl ?_
          exact hq _ _ _ _ ((f2.up (by decide) (Nat.le_refl _)).tr (f3.up (by decide) (Nat.le_refl _))) tw_3 ⟨_, _, _, _, _, _, _, zg_3⟩ ⟨_, _, _, _, _, _, _, _, zv3⟩ (fun v9 h9 => (covers_in hd (by omega) co3 hl3.1 (by omega) eK9 v9 h9).trans (if_pos (by assumption)))
      · refine wp_bipush (v := (-2)) dX11_covers_56 (by decide +kernel) ?_
        refine wp_ireturn dX11_covers_58 rfl ?_
        exact hq _ _ _ _ ((f2.up (by decide) (Nat.le_refl _)).tr (f3.up (by decide) (Nat.le_refl _))) tw_3 ⟨_, _, _, _, _, _, _, zg_3⟩ ⟨_, _, _, _, _, _, _, _, zv3⟩ (covers_out hd (by omega) co3 (ix_nlt (by omega) c5))
  · intro _ _
    refine wp_if_ne dX11_covers_8 (fun q => absurd q (by decide +kernel)) (fun _ => ?_)
    refine wp_bipush (v := (-2)) dX11_covers_11 (by decide +kernel) ?_
    refine wp_ireturn dX11_covers_13 rfl ?_
    exact hq _ _ 0 _ cFr.rf tw ⟨_, _, _, _, _, _, _, zg⟩ ⟨_, _, _, _, _, _, _, _, zv⟩ (covers_no xn1)
set_option maxRecDepth 20000 in
theorem pX11_contradict {h : mH} {Q : Option Value → mH → Prop} {ow : Nat → Nat} {F fa o1 d1 u1 : Nat} {pa my : Nat → Int32} {r : Nat → Int64} {pl : Nat → Int64} {gb ge : Int32} {gs gn : Int64} {gf gt : Int32} {e w : Nat} {v0 v1 v2 v3 v4 : Nat → Int32} {vc vk vh : Int32} {x y z : Int32} (e9 : eS ow h F pa my r fa o1 d1 u1) (hd : sOK r F pa my) (zg : zG ow h pl gb ge gs gn gf gt) (tw : tbW ow h r pa my F e w) (hw : w ≤ 8000000) (zv : zV ow h v0 v1 v2 v3 v4 vc vk vh) (hq : ∀ h' ow' u v, cFr [1, 2, 11, 12, 13, 14] u ow h ow' h' → tbW ow' h' r pa my F e w → (∃ pl gb ge gs gn gf gt, zG ow' h' pl gb ge gs gn gf gt) → (∃ v0 v1 v2 v3 v4 vc vk vh, zV ow' h' v0 v1 v2 v3 v4 vc vk vh) → (∀ v', spContra r F pa my x y z v' → v' = v) → Q (some (.int v)) h') : Wp mX11_contradict 7 185 0 [some (.ref 0), some (.int x), some (.int y), some (.int z), none, none] [] h Q := by
  have hP6 := hd.w.1.2
  have hF4 := hd.f4
  refine wp_aload_n dX11_contradict_0 rfl rfl ?_
  refine wp_getR dX11_contradict_1 lX11_34 rfl e9.oo e9.r6 ?_
  refine wp_cV0 2 43 [some _] dX11_contradict_4 tX3_now rfl (by decide) nX3_now vX3_now lX11_101 ⟨by decide, by decide⟩ (Nat.le_of_ble_eq_true rfl) e9.hh.o (Nat.le_of_ble_eq_true rfl) rfl ?_
  refine pX3_now e9.hh e9.kb e9.od.1 e9.od.2 ?_
  intro _ _
  refine wp_astore (ls1 := [_, _, _, _, some _, _]) dX11_contradict_7 (by decide) rfl ?_
  refine wp_aload_n dX11_contradict_9 rfl rfl ?_
  refine wp_getR dX11_contradict_10 lX11_20 rfl e9.oo e9.f4 ?_
  refine wp_iload_n dX11_contradict_13 rfl rfl ?_
  refine wp_cV1 0 0 [some _, some _] dX11_contradict_14 tX1_has rfl (by decide) nX1_has vX1_has lX11_139 ⟨by decide, by decide⟩ (Nat.le_of_ble_eq_true rfl) e9.fl.oo (Nat.le_of_ble_eq_true rfl) rfl ?_
  refine pX1_has e9.fl hF4 (fun f1 hf1 ef1 => ?_) (fun xn1 => ?_)
  · subst ef1
    intro _ _
    refine wp_if_eq dX11_contradict_17 (fun q => absurd q (by decide +kernel)) (fun _ => ?_)
    refine wp_iload_n dX11_contradict_20 rfl rfl ?_
    refine wp_iload_n dX11_contradict_21 rfl rfl ?_
    refine wp_icmp_ne dX11_contradict_22 (fun c2 => ?_) (fun c2 => ?_)
    · refine wp_aload dX11_contradict_27 rfl ?_
      refine wp_iload_n dX11_contradict_29 rfl rfl ?_
      refine wp_iload_n dX11_contradict_30 rfl rfl ?_
      refine wp_cV2 1 21 [some _, some _, some _] dX11_contradict_31 tX8_isExample rfl (by decide) nX8_isExample vX8_isExample lX11_230 ⟨by decide, by decide⟩ (Nat.le_of_ble_eq_true rfl) e9.st.oo (Nat.le_of_ble_eq_true rfl) rfl ?_
      refine pX8_isExample e9.st hd (by omega) (fun p2 hp2 ep2 hm2 => ?_) (fun hn2 => ?_)
      · subst ep2
        intro _ _
        refine wp_if_eq dX11_contradict_34 (fun q => absurd q (by decide +kernel)) (fun _ => ?_)
        refine wp_aload dX11_contradict_37 rfl ?_
        refine wp_iload_n dX11_contradict_39 rfl rfl ?_
        refine wp_iload_n dX11_contradict_40 rfl rfl ?_
        refine wp_cV2 1 21 [some _, some _, some _] dX11_contradict_41 tX8_isExample rfl (by decide) nX8_isExample vX8_isExample lX11_230 ⟨by decide, by decide⟩ (Nat.le_of_ble_eq_true rfl) e9.st.oo (Nat.le_of_ble_eq_true rfl) rfl ?_
        refine pX8_isExample e9.st hd (by omega) (fun p3 hp3 ep3 hm3 => ?_) (fun hn3 => ?_)
        · subst ep3
          intro _ _
          refine wp_if_ne dX11_contradict_44 (fun _ => ?_) (fun q => absurd q (by decide +kernel))
          refine wp_iconst (v := (nI 1)) dX11_contradict_49 (by decide +kernel) ?_
          refine wp_iload_n dX11_contradict_50 rfl rfl ?_
          refine wp_ishl dX11_contradict_51 ?_
          refine wp_iconst (v := (nI 1)) dX11_contradict_52 (by decide +kernel) ?_
          refine wp_iload_n dX11_contradict_53 rfl rfl ?_
          refine wp_ishl dX11_contradict_54 ?_
          refine wp_ior dX11_contradict_55 ?_
          rw [nx_shl1 (show p2 < 31 by omega), nx_shl1 (show p3 < 31 by omega), nx_or]
          have hs9 := pw_or (p := p2) (q := p3) (by omega) (by omega)
          have hb9 := pw_sub (r := r) (f := f1) ⟨hp2, hm2⟩ ⟨hp3, hm3⟩
          have hv9 := fun (L : List Nat) (hop : Nat) => con_v (L := L) (hop := hop) hd (f := f1) (by omega) hp2 hp3 (fun z => by subst z; exact absurd rfl (by assumption)) hm2 hm3 hs9
          generalize 2 ^ p2 ||| 2 ^ p3 = s9 at *
          refine wp_istore (ls1 := [_, _, _, _, _, some _]) dX11_contradict_56 (by decide) rfl ?_
          refine wp_aload_n dX11_contradict_58 rfl rfl ?_
          refine wp_getR dX11_contradict_59 lX11_53 rfl e9.oo e9.r9 ?_
          refine wp_aload_n dX11_contradict_62 rfl rfl ?_
          refine wp_iload_n dX11_contradict_63 rfl rfl ?_
          refine wp_cV1 6 162 [some _, some _, none, none] dX11_contradict_64 tX11_tableOf rfl (by decide) nX11_tableOf vX11_tableOf lX11_249 ⟨by decide, by decide⟩ (Nat.le_of_ble_eq_true rfl) e9.oo (Nat.le_of_ble_eq_true rfl) rfl ?_
          refine pX11_tableW e9 hd zg tw hw (by omega) (fun hh4 ow4 u4 n4 m4 cc4 K4 O4 f4 tw_4 tb_4 gg4 => ?_)
          intro _ _
          obtain ⟨_, _, _, _, _, _, _, zg_4⟩ := gg4
          have e9_4 := e9.fr f4 (by decide)
          have zv_4 := zv.fr f4 (by decide)
          refine wp_iload dX11_contradict_67 rfl ?_
          refine wp_cV2 2 51 [some _, some _, some _, none, none] dX11_contradict_69 tX0_solve rfl (by decide) nX0_solve vX0_solve lX11_253 ⟨by decide, by decide⟩ (Nat.le_of_ble_eq_true rfl) zv_4.o (Nat.le_of_ble_eq_true rfl) rfl ?_
          refine pX0_solve zv_4 tb_4 (by omega) hs9 hb9 (fun hh5 L5 hop5 f5 sv5 co5 => ?_)
          intro _ _
          have e9_5 := e9_4.fr f5 (by decide)
          have zg_5 := zg_4.fr f5 (rnS (by omega) rn0)
          have tw_5 := tw_4.fr f5 (fun f9 hf9 => by simp <;> omega)
          have tb_5 := tb_4.fr f5 (rnS (by omega) rn0)
          obtain ⟨w05, w15, w25, w35, w45, zv5, hl5, hr5⟩ := id sv5
          refine wp_aload_n dX11_contradict_72 rfl rfl ?_
          refine wp_getR dX11_contradict_73 lX11_53 rfl e9_5.oo e9_5.r9 ?_
          refine wp_getIV dX11_contradict_76 lX11_318 rfl zv5.o zv5.f7 ?_
          refine wp_iload dX11_contradict_79 rfl ?_
          refine wp_icmp_neN dX11_contradict_81 rfl rfl ⟨by omega, by omega⟩ (fun c5 => ?_) (fun c5 => ?_)
          · refine wp_iconst (v := (nI 0)) dX11_contradict_88 (by decide +kernel) ?_
            refine wp_ireturn dX11_contradict_89 rfl ?_
            exact hq _ _ _ _ ((f4.up (by decide) (Nat.le_refl _)).tr (f5.up (by decide) (Nat.le_refl _))) tw_5 ⟨_, _, _, _, _, _, _, zg_5⟩ ⟨_, _, _, _, _, _, _, _, zv5⟩ (fun v9 h9 => (hv9 L5 hop5 co5 v9 h9).trans (if_neg (by omega)))
          · refine wp_iconst (v := (nI 1)) dX11_contradict_84 (by decide +kernel) ?_
            refine wp_goto dX11_contradict_85 ?_
            refine wp_ireturn dX11_contradict_89 rfl ?_
            exact hq _ _ _ _ ((f4.up (by decide) (Nat.le_refl _)).tr (f5.up (by decide) (Nat.le_refl _))) tw_5 ⟨_, _, _, _, _, _, _, zg_5⟩ ⟨_, _, _, _, _, _, _, _, zv5⟩ (fun v9 h9 => (hv9 L5 hop5 co5 v9 h9).trans (if_pos (by omega)))
        · intro _ _
          refine wp_if_ne dX11_contradict_44 (fun q => absurd q (by decide +kernel)) (fun _ => ?_)
          refine wp_iconst (v := (-1)) dX11_contradict_47 (by decide +kernel) ?_
          refine wp_ireturn dX11_contradict_48 rfl ?_
          exact hq _ _ 0 _ cFr.rf tw ⟨_, _, _, _, _, _, _, zg⟩ ⟨_, _, _, _, _, _, _, _, zv⟩ (con_3 hd (by omega) (Or.inr hn3))
      · intro _ _
        refine wp_if_eq dX11_contradict_34 (fun _ => ?_) (fun q => absurd q (by decide +kernel))
        refine wp_iconst (v := (-1)) dX11_contradict_47 (by decide +kernel) ?_
        refine wp_ireturn dX11_contradict_48 rfl ?_
        exact hq _ _ 0 _ cFr.rf tw ⟨_, _, _, _, _, _, _, zg⟩ ⟨_, _, _, _, _, _, _, _, zv⟩ (con_3 hd (by omega) (Or.inl hn2))
    · refine wp_iconst (v := (-1)) dX11_contradict_25 (by decide +kernel) ?_
      refine wp_ireturn dX11_contradict_26 rfl ?_
      exact hq _ _ 0 _ cFr.rf tw ⟨_, _, _, _, _, _, _, zg⟩ ⟨_, _, _, _, _, _, _, _, zv⟩ (by subst_vars; exact con_2)
  · intro _ _
    refine wp_if_eq dX11_contradict_17 (fun _ => ?_) (fun q => absurd q (by decide +kernel))
    refine wp_iconst (v := (-1)) dX11_contradict_25 (by decide +kernel) ?_
    refine wp_ireturn dX11_contradict_26 rfl ?_
    exact hq _ _ 0 _ cFr.rf tw ⟨_, _, _, _, _, _, _, zg⟩ ⟨_, _, _, _, _, _, _, _, zv⟩ (con_1 xn1)
set_option maxRecDepth 20000 in
theorem pX11_without {h : mH} {Q : Option Value → mH → Prop} {ow : Nat → Nat} {F fa o1 d1 u1 : Nat} {pa my : Nat → Int32} {r : Nat → Int64} {pl : Nat → Int64} {gb ge : Int32} {gs gn : Int64} {gf gt : Int32} {e w : Nat} {v0 v1 v2 v3 v4 : Nat → Int32} {vc vk vh : Int32} {x y : Int32} (e9 : eS ow h F pa my r fa o1 d1 u1) (hd : sOK r F pa my) (zg : zG ow h pl gb ge gs gn gf gt) (tw : tbW ow h r pa my F e w) (hw : w ≤ 8000000) (zv : zV ow h v0 v1 v2 v3 v4 vc vk vh) (hq : ∀ h' ow' u v, cFr [1, 2, 11, 12, 13, 14] u ow h ow' h' → tbW ow' h' r pa my F e w → (∃ pl gb ge gs gn gf gt, zG ow' h' pl gb ge gs gn gf gt) → (∃ v0 v1 v2 v3 v4 vc vk vh, zV ow' h' v0 v1 v2 v3 v4 vc vk vh) → (∀ v', spWithout r F pa my x y v' → v' = v) → Q (some (.int v)) h') : Wp mX11_without 7 185 0 [some (.ref 0), some (.int x), some (.int y), none] [] h Q := by
  have hP6 := hd.w.1.2
  have hF4 := hd.f4
  refine wp_aload_n dX11_without_0 rfl rfl ?_
  refine wp_getR dX11_without_1 lX11_34 rfl e9.oo e9.r6 ?_
  refine wp_cV0 2 43 [some _] dX11_without_4 tX3_now rfl (by decide) nX3_now vX3_now lX11_101 ⟨by decide, by decide⟩ (Nat.le_of_ble_eq_true rfl) e9.hh.o (Nat.le_of_ble_eq_true rfl) rfl ?_
  refine pX3_now e9.hh e9.kb e9.od.1 e9.od.2 ?_
  intro _ _
  refine wp_astore_n (ls1 := [_, _, _, some _]) dX11_without_7 rfl (by decide) rfl ?_
  refine wp_aload_n dX11_without_8 rfl rfl ?_
  refine wp_getR dX11_without_9 lX11_20 rfl e9.oo e9.f4 ?_
  refine wp_iload_n dX11_without_12 rfl rfl ?_
  refine wp_cV1 0 0 [some _, some _] dX11_without_13 tX1_has rfl (by decide) nX1_has vX1_has lX11_139 ⟨by decide, by decide⟩ (Nat.le_of_ble_eq_true rfl) e9.fl.oo (Nat.le_of_ble_eq_true rfl) rfl ?_
  refine pX1_has e9.fl hF4 (fun f1 hf1 ef1 => ?_) (fun xn1 => ?_)
  · subst ef1
    intro _ _
    refine wp_if_eq dX11_without_16 (fun q => absurd q (by decide +kernel)) (fun _ => ?_)
    refine wp_aload_n dX11_without_19 rfl rfl ?_
    refine wp_iload_n dX11_without_20 rfl rfl ?_
    refine wp_iload_n dX11_without_21 rfl rfl ?_
    refine wp_cV2 1 21 [some _, some _, some _] dX11_without_22 tX8_isExample rfl (by decide) nX8_isExample vX8_isExample lX11_230 ⟨by decide, by decide⟩ (Nat.le_of_ble_eq_true rfl) e9.st.oo (Nat.le_of_ble_eq_true rfl) rfl ?_
    refine pX8_isExample e9.st hd (by omega) (fun p2 hp2 ep2 hm2 => ?_) (fun hn2 => ?_)
    · subst ep2
      intro _ _
      refine wp_if_ne dX11_without_25 (fun _ => ?_) (fun q => absurd q (by decide +kernel))
      refine wp_aload_n dX11_without_30 rfl rfl ?_
      refine wp_getR dX11_without_31 lX11_53 rfl e9.oo e9.r9 ?_
      refine wp_aload_n dX11_without_34 rfl rfl ?_
      refine wp_iload_n dX11_without_35 rfl rfl ?_
      refine wp_cV1 6 162 [some _, some _, none, none] dX11_without_36 tX11_tableOf rfl (by decide) nX11_tableOf vX11_tableOf lX11_249 ⟨by decide, by decide⟩ (Nat.le_of_ble_eq_true rfl) e9.oo (Nat.le_of_ble_eq_true rfl) rfl ?_
      refine pX11_tableW e9 hd zg tw hw (by omega) (fun hh3 ow3 u3 n3 m3 cc3 K3 O3 f3 tw_3 tb_3 gg3 => ?_)
      intro _ _
      obtain ⟨_, _, _, _, _, _, _, zg_3⟩ := gg3
      have e9_3 := e9.fr f3 (by decide)
      have zv_3 := zv.fr f3 (by decide)
      refine wp_aload_n dX11_without_39 rfl rfl ?_
      refine wp_iload_n dX11_without_40 rfl rfl ?_
      refine wp_cV1 2 43 [some _, some _, none, none] dX11_without_41 tX8_examplesOf rfl (by decide) nX8_examplesOf vX8_examplesOf lX11_154 ⟨by decide, by decide⟩ (Nat.le_of_ble_eq_true rfl) e9_3.st.oo (Nat.le_of_ble_eq_true rfl) rfl ?_
      refine pX8_examplesOf e9_3.st hd (by omega) ?_
      intro _ _
      refine wp_iconst (v := (nI 1)) dX11_without_44 (by decide +kernel) ?_
      refine wp_iload_n dX11_without_45 rfl rfl ?_
      refine wp_ishl dX11_without_46 ?_
      refine wp_iconst (v := (-1)) dX11_without_47 (by decide +kernel) ?_
      refine wp_ixor dX11_without_48 ?_
      refine wp_iand dX11_without_49 ?_
      rw [nx_shl1 (show p2 < 31 by omega), nx_not (pw_lt (show p2 < 6 by omega)) (exE_lt hd)]
      refine wp_cV2 2 51 [some _, some _, some _, none, none] dX11_without_50 tX0_solve rfl (by decide) nX0_solve vX0_solve lX11_253 ⟨by decide, by decide⟩ (Nat.le_of_ble_eq_true rfl) zv_3.o (Nat.le_of_ble_eq_true rfl) rfl ?_
      refine pX0_solve zv_3 tb_3 (by omega) (Nat.lt_of_le_of_lt Nat.and_le_left (exE_lt hd)) and_sb (fun hh4 L4 hop4 f4 sv4 co4 => ?_)
      intro _ _
      have e9_4 := e9_3.fr f4 (by decide)
      have zg_4 := zg_3.fr f4 (rnS (by omega) rn0)
      have tw_4 := tw_3.fr f4 (fun f9 hf9 => by simp <;> omega)
      have tb_4 := tb_3.fr f4 (rnS (by omega) rn0)
      obtain ⟨w04, w14, w24, w34, w44, zv4, hl4, hr4⟩ := id sv4
      refine wp_aload_n dX11_without_53 rfl rfl ?_
      refine wp_getR dX11_without_54 lX11_53 rfl e9_4.oo e9_4.r9 ?_
      refine wp_getIV dX11_without_57 lX11_318 rfl zv4.o zv4.f7 ?_
      refine wp_cS1 0 0 [some _] dX11_without_60 tJ6_bitCount_0f7a4 sJ6_bitCount_0f7a4 lX11_372 ⟨by decide, by decide⟩ (Nat.le_of_ble_eq_true rfl) (Nat.le_of_ble_eq_true rfl) rfl ?_
      refine pJ6_bitCount_0f7a4 hl4.2 ?_
      intro _ _
      refine wp_ireturn dX11_without_63 rfl ?_
      exact hq _ _ _ _ ((f3.up (by decide) (Nat.le_refl _)).tr (f4.up (by decide) (Nat.le_refl _))) tw_4 ⟨_, _, _, _, _, _, _, zg_4⟩ ⟨_, _, _, _, _, _, _, _, zv4⟩ (wo_v hd hp2 (by omega) hm2 hl4.2 co4)
    · intro _ _
      refine wp_if_ne dX11_without_25 (fun q => absurd q (by decide +kernel)) (fun _ => ?_)
      refine wp_iconst (v := (-1)) dX11_without_28 (by decide +kernel) ?_
      refine wp_ireturn dX11_without_29 rfl ?_
      exact hq _ _ 0 _ cFr.rf tw ⟨_, _, _, _, _, _, _, zg⟩ ⟨_, _, _, _, _, _, _, _, zv⟩ (wo_no hd (Or.inr ⟨_, by omega, rfl, hn2⟩))
  · intro _ _
    refine wp_if_eq dX11_without_16 (fun _ => ?_) (fun q => absurd q (by decide +kernel))
    refine wp_iconst (v := (-1)) dX11_without_28 (by decide +kernel) ?_
    refine wp_ireturn dX11_without_29 rfl ?_
    exact hq _ _ 0 _ cFr.rf tw ⟨_, _, _, _, _, _, _, zg⟩ ⟨_, _, _, _, _, _, _, _, zv⟩ (wo_no hd (Or.inl xn1))
