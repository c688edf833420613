/-! ===== sums and sets of a state ===== -/
def pcS (r : Nat → Int64) : Nat → Nat
  | 0 => 0
  | s + 1 => pcS r s + rM r (s / 6) (s % 6)
theorem pcS_6 (r : Nat → Int64) (f : Nat) : ∀ p, p ≤ 6 → pcS r (6 * f + p) = pcS r (6 * f) + sumP r f p
  | 0, _ => rfl
  | p + 1, hp => by
    show pcS r (6 * f + p) + rM r ((6 * f + p) / 6) ((6 * f + p) % 6) = pcS r (6 * f) + (sumP r f p + rM r f p)
    rw [pcS_6 r f p (by omega), show (6 * f + p) / 6 = f by omega, show (6 * f + p) % 6 = p by omega, Nat.add_assoc]
theorem pcS_f (r : Nat → Int64) : ∀ f, pcS r (6 * f) = sumF r 6 f
  | 0 => rfl
  | f + 1 => by
    rw [show 6 * (f + 1) = 6 * f + 6 by omega, pcS_6 r f 6 (Nat.le_refl _), pcS_f r f]
    rfl
theorem sumP_z {r : Nat → Int64} {f P : Nat} : ∀ k, (∀ p, P ≤ p → p < P + k → rM r f p = 0) → sumP r f (P + k) = sumP r f P
  | 0, _ => rfl
  | k + 1, h => by
    show sumP r f (P + k) + rM r f (P + k) = _
    rw [sumP_z k (fun p h1 h2 => h p h1 (by omega)), h (P + k) (by omega) (by omega), Nat.add_zero]
theorem sumF_z {r : Nat → Int64} {Q F : Nat} : ∀ k, (∀ f, F ≤ f → f < F + k → sumP r f Q = 0) → sumF r Q (F + k) = sumF r Q F
  | 0, _ => rfl
  | k + 1, h => by
    show sumF r Q (F + k) + sumP r (F + k) Q = _
    rw [sumF_z k (fun p h1 h2 => h p h1 (by omega)), h (F + k) (by omega) (by omega), Nat.add_zero]
theorem sumF_cg {r : Nat → Int64} {Q Q' : Nat} : ∀ F, (∀ f, f < F → sumP r f Q = sumP r f Q') → sumF r Q F = sumF r Q' F
  | 0, _ => rfl
  | F + 1, h => by
    show sumF r Q F + sumP r F Q = sumF r Q' F + sumP r F Q'
    rw [sumF_cg F (fun f hf => h f (by omega)), h F (by omega)]
theorem pcS_e {r : Nat → Int64} {F : Nat} {pa my : Nat → Int32} (hd : sOK r F pa my) : pcS r 24 = sumF r (rP r) F := by
  have h4 := hd.f4
  have h6 := hd.w.1.2
  have e1 := pcS_f r 4
  have e2 : ∀ f, f < 4 → sumP r f 6 = sumP r f (rP r) := fun f hf => by
    have := sumP_z (r := r) (f := f) (P := rP r) (6 - rP r) (fun p h1 h2 => hd.zM f p hf (by omega) (Or.inr h1))
    rwa [show rP r + (6 - rP r) = 6 by omega] at this
  have e3 : ∀ f, F ≤ f → f < 4 → sumP r f 6 = 0 := fun f h1 h2 => by
    have := sumP_z (r := r) (f := f) (P := 0) 6 (fun p _ h3 => hd.zM f p h2 (by omega) (Or.inl h1))
    rwa [show 0 + 6 = 6 from rfl] at this
  have e4 := sumF_z (r := r) (Q := 6) (F := F) (4 - F) (fun f h1 h2 => e3 f h1 (by omega))
  rw [show F + (4 - F) = 4 by omega] at e4
  rw [show (24 : Nat) = 6 * 4 from rfl, e1, e4]
  exact sumF_cg F (fun f hf => e2 f (by omega))
theorem pcS_le {r : Nat → Int64} (hw : WF r) : ∀ s, s ≤ 24 → pcS r s ≤ 8 * s
  | 0, _ => Nat.le_refl _
  | s + 1, h => by
    have h1 := pcS_le hw s (by omega)
    have h2 := (hw.2.2 (s / 6) (s % 6) (by omega) (Nat.mod_lt _ (by decide))).1.2
    show pcS r s + rM r (s / 6) (s % 6) ≤ _
    omega
theorem leS_0 {r : Nat → Int64} {f : Nat} (hf : f < 4) (h : ¬ r (655 + 70 * f) = 1) : leS r (f + 1) = leS r f := by
  show leS r f ||| _ = _
  rw [if_neg h, nx_shl0 (by omega), nI_0, Int32.or_zero]
theorem leS_1 {r : Nat → Int64} {f : Nat} (h : r (655 + 70 * f) = 1) : leS r (f + 1) = leS r f ||| (nI 1 <<< (nI f &&& 31)) := by
  show leS r f ||| _ = _
  rw [if_pos h]
theorem leS_F {r : Nat → Int64} {F : Nat} {pa my : Nat → Int32} (hd : sOK r F pa my) : leS r 4 = leS r F := by
  have h4 := hd.f4
  have : ∀ k, F + k ≤ 4 → leS r (F + k) = leS r F := by
    intro k
    induction k with
    | zero => intro _; rfl
    | succ k ih =>
      intro hk
      have hz : ¬ r (655 + 70 * (F + k)) = 1 := fun z => by
        have := (hd.l1 (F + k) (by omega) z).1
        omega
      exact (leS_0 (by omega) hz).trans (ih (by omega))
  have h := this (4 - F) (by omega)
  rwa [show F + (4 - F) = 4 by omega] at h
theorem exN_1 {r : Nat → Int64} {f p : Nat} (h : 0 < rM r f p) : exN r f (p + 1) = exN r f p ||| 2 ^ p := by
  show exN r f p ||| _ = _
  rw [if_pos h]
theorem exN_0 {r : Nat → Int64} {f p : Nat} (h : rM r f p = 0) : exN r f (p + 1) = exN r f p := by
  show exN r f p ||| _ = _
  rw [if_neg (by omega), Nat.or_zero]
theorem pop_mk {r : Nat → Int64} {F : Nat} {pa my : Nat → Int32} {f p : Nat} (hd : sOK r F pa my) (hf : f < 4) (hp : p < 6) : pop (bsA (mkL r f p)) = rM r f p := by
  have hT := (hd.w.2.1 p hp).2
  unfold bsA
  rw [bsN_pop (srt_asc (srt_mk hd hf hp) (by omega)).1, List.length_map, mkL_len]
theorem ex_no {r : Nat → Int64} {f p : Nat} (hp : p < rP r) (h6 : rP r ≤ 6) (h : ix (nI p) (rP r) = none ∨ ∃ p', p' < rP r ∧ nI p = nI p' ∧ rM r f p' = 0) : rM r f p = 0 := by
  rcases h with h | ⟨p', h1, h2, h3⟩
  · rw [ix_nI hp (by omega)] at h
    cases h
  · rw [nI_eq (by omega) (by omega)] at h2
    rw [h2]
    exact h3
section
variable {ow : Nat → Nat} {h : mH} {a ρ q p f F fa o1 d1 u1 : Nat} {pa my : Nat → Int32} {r : Nat → Int64}
theorem stR.oo (e : stR ow h a ρ r) : hO h a 8 := e.o
theorem stR.f4 (e : stR ow h a ρ r) : hI h a 4 = nI (rP r) := e.c
theorem stR.wr (e : stR ow h a ρ r) : ow a = ρ := e.choose_spec.choose_spec.choose_spec.choose_spec.1.w
theorem pgR.oo (e : pgR ow h q r p) : hO h q 6 := e.o
theorem pgR.f0 (e : pgR ow h q r p) : hI h q 0 = nI (rT r p) := e.n
theorem pgR.f4 (e : pgR ow h q r p) : hI h q 4 = nI (uq (tk r (p + 1))).length := e.u
theorem pgR.c1 (e : pgR ow h q r p) {i : Nat} (hi : i < rT r p) : hL h (q + 1) i = rW r p i := by
  obtain ⟨pt, pk, pn, z, hz⟩ := e
  exact (congrFun z.c1 i).trans (hz i hi).1
theorem pgR.c2 (e : pgR ow h q r p) {i : Nat} (hi : i < rT r p) : hI h (q + 2) i = nI (kd (rW r p i)) := by
  obtain ⟨pt, pk, pn, z, hz⟩ := e
  exact (congrFun z.c2 i).trans (hz i hi).2.1
theorem pgR.c3 (e : pgR ow h q r p) {i : Nat} (hi : i < rT r p) : hI h (q + 3) i = nI ((uq (tk r (p + 1))).idxOf (rW r p i)) := by
  obtain ⟨pt, pk, pn, z, hz⟩ := e
  exact (congrFun z.c3 i).trans (hz i hi).2.2
theorem lnR.oo (e : lnR ow h q r f) : hO h q 4 := e.o
theorem lnR.f2 (e : lnR ow h q r f) : hI h q 2 = nI (lrS r f 0) := e.choose_spec.choose_spec.1.f2
theorem lnR.f3 (e : lnR ow h q r f) : hI h q 3 = nI (lrS r f 1) := e.choose_spec.choose_spec.1.f3
theorem lnR.f4 (e : lnR ow h q r f) : hI h q 4 = nI (lrS r f 2) := e.choose_spec.choose_spec.1.f4
theorem lnR.f5 (e : lnR ow h q r f) : hI h q 5 = nI (lrS r f 3) := e.choose_spec.choose_spec.1.f5
theorem lnR.c0 (e : lnR ow h q r f) {k : Nat} (hk : k < lrN r f) : ∃ key, cod key ∧ hL h (q + 1) k = lN key ∧ ∀ w, w < 4 → itm (kI key w) = lrI r f k w := by
  obtain ⟨nr, np, z, hz, _⟩ := e
  obtain ⟨key, h1, h2, h3⟩ := hz k hk
  exact ⟨key, h1, (congrFun z.c0 k).trans h2, h3⟩
theorem lnR.c1 (e : lnR ow h q r f) {j : Nat} (hj : j < lrS r f 0) : hI h (q + 2) j = nI (lrS r f (4 + j)) := by
  obtain ⟨nr, np, z, _, hz⟩ := e
  exact (congrFun z.c1 j).trans (hz j hj)
theorem flR.oo (e : flR ow h q F pa my) : hO h q 1 := e.o
theorem flR.f3 (e : flR ow h q F pa my) : hI h q 3 = nI F := e.choose_spec.choose_spec.choose_spec.1.f3
theorem flR.c1 (e : flR ow h q F pa my) {f : Nat} (hf : f < F) : hI h (q + 2) f = pa f := by
  obtain ⟨fn, fp, fm, z, hz⟩ := e
  exact (congrFun z.c1 f).trans (hz f hf).1
theorem flR.c2 (e : flR ow h q F pa my) {f : Nat} (hf : f < F) : hI h (q + 3) f = my f := by
  obtain ⟨fn, fp, fm, z, hz⟩ := e
  exact (congrFun z.c2 f).trans (hz f hf).2
theorem stR.ln (e : stR ow h a ρ r) (hf : f < 4) : (r (655 + 70 * f) = 1 ∧ ∃ q, hR h (a + 2) f = some q ∧ lnR ow h q r f) ∨ (¬ r (655 + 70 * f) = 1 ∧ hR h (a + 2) f = none) := by
  obtain ⟨sp, sl, ss, se, z, hp, hl, hb⟩ := e
  by_cases e9 : r (655 + 70 * f) = 1
  · obtain ⟨q, h1, h2⟩ := (hl f hf).1 e9
    exact Or.inl ⟨e9, q, (congrFun z.c1 f).trans h1, h2⟩
  · exact Or.inr ⟨e9, (congrFun z.c1 f).trans ((hl f hf).2 e9)⟩
theorem stR.pg (e : stR ow h a ρ r) (hp : p < rP r) : ∃ q, hR h (a + 1) p = some q ∧ pgR ow h q r p := by
  obtain ⟨sp, sl, ss, se, z, hpg, hl, hb⟩ := e
  obtain ⟨q, h1, h2⟩ := hpg p hp
  exact ⟨q, (congrFun z.c0 p).trans h1, h2⟩
theorem stR.c2 (e : stR ow h a ρ r) (hf : f < 4) (hp : p < 6) : hL h (a + 3) (6 * f + p) = lN (bsA (mkL r f p)) := by
  obtain ⟨sp, sl, ss, se, z, hpg, hl, hb⟩ := e
  exact (congrFun z.c2 _).trans (hb f p hf hp).1
theorem stR.c3 (e : stR ow h a ρ r) (hf : f < 4) (hp : p < 6) : hL h (a + 4) (6 * f + p) = lN (bsE (mkL r f p)) := by
  obtain ⟨sp, sl, ss, se, z, hpg, hl, hb⟩ := e
  exact (congrFun z.c3 _).trans (hb f p hf hp).2
theorem eS.oo (e : eS ow h F pa my r fa o1 d1 u1) : hO h 0 11 := e.o
theorem stR.r0 (e : stR ow h a ρ r) : hR h a 0 = some (a + 1) := e.choose_spec.choose_spec.choose_spec.choose_spec.1.r0
theorem stR.a0 (e : stR ow h a ρ r) : hA h (a + 1) 19 6 := e.choose_spec.choose_spec.choose_spec.choose_spec.1.a0
theorem stR.r1 (e : stR ow h a ρ r) : hR h a 1 = some (a + 2) := e.choose_spec.choose_spec.choose_spec.choose_spec.1.r1
theorem stR.a1 (e : stR ow h a ρ r) : hA h (a + 2) 20 4 := e.choose_spec.choose_spec.choose_spec.choose_spec.1.a1
theorem stR.r2 (e : stR ow h a ρ r) : hR h a 2 = some (a + 3) := e.choose_spec.choose_spec.choose_spec.choose_spec.1.r2
theorem stR.a2 (e : stR ow h a ρ r) : hA h (a + 3) 15 24 := e.choose_spec.choose_spec.choose_spec.choose_spec.1.a2
theorem stR.r3 (e : stR ow h a ρ r) : hR h a 3 = some (a + 4) := e.choose_spec.choose_spec.choose_spec.choose_spec.1.r3
theorem stR.a3 (e : stR ow h a ρ r) : hA h (a + 4) 15 24 := e.choose_spec.choose_spec.choose_spec.choose_spec.1.a3
theorem pgR.r1 (e : pgR ow h q r p) : hR h q 1 = some (q + 1) := e.choose_spec.choose_spec.choose_spec.1.r1
theorem pgR.a1 (e : pgR ow h q r p) : hA h (q + 1) 15 (rT r p) := e.choose_spec.choose_spec.choose_spec.1.a1
theorem pgR.r2 (e : pgR ow h q r p) : hR h q 2 = some (q + 2) := e.choose_spec.choose_spec.choose_spec.1.r2
theorem pgR.a2 (e : pgR ow h q r p) : hA h (q + 2) 14 (rT r p) := e.choose_spec.choose_spec.choose_spec.1.a2
theorem pgR.r3 (e : pgR ow h q r p) : hR h q 3 = some (q + 3) := e.choose_spec.choose_spec.choose_spec.1.r3
theorem pgR.a3 (e : pgR ow h q r p) : hA h (q + 3) 14 (rT r p) := e.choose_spec.choose_spec.choose_spec.1.a3
theorem lnR.r0 (e : lnR ow h q r f) : hR h q 0 = some (q + 1) := e.choose_spec.choose_spec.1.r0
theorem lnR.a0 (e : lnR ow h q r f) : hA h (q + 1) 15 (lrN r f) := e.choose_spec.choose_spec.1.a0
theorem lnR.r1 (e : lnR ow h q r f) : hR h q 1 = some (q + 2) := e.choose_spec.choose_spec.1.r1
theorem lnR.a1 (e : lnR ow h q r f) : hA h (q + 2) 14 (lrS r f 0) := e.choose_spec.choose_spec.1.a1
theorem flR.r0 (e : flR ow h q F pa my) : hR h q 0 = some (q + 1) := e.choose_spec.choose_spec.choose_spec.1.r0
theorem flR.a0 (e : flR ow h q F pa my) : hA h (q + 1) 15 4 := e.choose_spec.choose_spec.choose_spec.1.a0
theorem flR.r1 (e : flR ow h q F pa my) : hR h q 1 = some (q + 2) := e.choose_spec.choose_spec.choose_spec.1.r1
theorem flR.a1 (e : flR ow h q F pa my) : hA h (q + 2) 14 4 := e.choose_spec.choose_spec.choose_spec.1.a1
theorem flR.r2 (e : flR ow h q F pa my) : hR h q 2 = some (q + 3) := e.choose_spec.choose_spec.choose_spec.1.r2
theorem flR.a2 (e : flR ow h q F pa my) : hA h (q + 3) 16 4 := e.choose_spec.choose_spec.choose_spec.1.a2
end
set_option maxRecDepth 20000 in
theorem pX8_examplesOf {h : mH} {Q : Option Value → mH → Prop} {ow : Nat → Nat} {a ρ F : Nat} {r : Nat → Int64} {pa my : Nat → Int32} {f : Nat} (s9 : stR ow h a ρ r) (hd : sOK r F pa my) (hf4 : f < 4) (hq : Q (some (.int (nI (exE r f)))) h) : Wp mX8_examplesOf 2 43 0 [some (.ref a), some (.int (nI f)), none, none] [] h Q := by
  have hP6 := hd.w.1.2
  have hF4 := hd.f4
  have hloop : ∀  (t9 : Nat) (p : Nat), (p ≤ rP r) → (rP r < p + t9) → Wp mX8_examplesOf 2 43 4 [some (.ref a), some (.int (nI f)), some (.int (nI (exN r f p))), some (.int (nI p))] [] h Q := by
    intro t9
    induction t9 with
    | zero => intros; omega
    | succ t9 ih =>
      intro p hp hmz
      refine wp_iload_n dX8_examplesOf_4 rfl rfl ?_
      refine wp_aload_n dX8_examplesOf_5 rfl rfl ?_
      refine wp_getIV dX8_examplesOf_6 lX8_36 rfl s9.oo s9.f4 ?_
      refine wp_icmp_geN dX8_examplesOf_9 rfl rfl ⟨by omega, by omega⟩ (fun c2 => ?_) (fun c2 => ?_)
      · refine wp_iload_n dX8_examplesOf_33 rfl rfl ?_
        refine wp_ireturn dX8_examplesOf_34 rfl ?_
        have e9 : p = rP r := by omega
        subst e9
        exact hq
      · refine wp_aload_n dX8_examplesOf_12 rfl rfl ?_
        refine wp_iload_n dX8_examplesOf_13 rfl rfl ?_
        refine wp_iload_n dX8_examplesOf_14 rfl rfl ?_
        refine wp_cV2 1 21 [some _, some _, some _] dX8_examplesOf_15 tX8_isExample rfl (by decide) nX8_isExample vX8_isExample lX8_60 ⟨by decide, by decide⟩ (Nat.le_of_ble_eq_true rfl) s9.oo (Nat.le_of_ble_eq_true rfl) rfl ?_
        refine pX8_isExample s9 hd (by omega) (fun p1 hp1 ep1 hm1 => ?_) (fun hn1 => ?_)
        · have ep1 := (nI_eq (by omega) (by omega)).mp ep1
          subst ep1
          intro _ _
          refine wp_if_eq dX8_examplesOf_18 (fun q => absurd q (by decide +kernel)) (fun _ => ?_)
          refine wp_iload_n dX8_examplesOf_21 rfl rfl ?_
          refine wp_iconst (v := (nI 1)) dX8_examplesOf_22 (by decide +kernel) ?_
          refine wp_iload_n dX8_examplesOf_23 rfl rfl ?_
          refine wp_ishl dX8_examplesOf_24 ?_
          refine wp_ior dX8_examplesOf_25 ?_
          refine wp_istore_n (ls1 := [_, _, some _, _]) dX8_examplesOf_26 rfl (by decide) rfl ?_
          refine wp_iinc1 (ls1 := [_, _, _, some _]) dX8_examplesOf_27 rfl (by decide) rfl ?_
          refine wp_goto dX8_examplesOf_30 ?_
          rw [nx_shl1 (by omega), nx_or, ← exN_1 hm1]
          exact ih (p + 1) (by omega) (by omega)
        · have hn1 := ex_no (by omega) (by omega) hn1
          intro _ _
          refine wp_if_eq dX8_examplesOf_18 (fun _ => ?_) (fun q => absurd q (by decide +kernel))
          refine wp_iinc1 (ls1 := [_, _, _, some _]) dX8_examplesOf_27 rfl (by decide) rfl ?_
          refine wp_goto dX8_examplesOf_30 ?_
          rw [← exN_0 hn1]
          exact ih (p + 1) (by omega) (by omega)
  refine wp_iconst (v := (nI 0)) dX8_examplesOf_0 (by decide +kernel) ?_
  refine wp_istore_n (ls1 := [_, _, some _, _]) dX8_examplesOf_1 rfl (by decide) rfl ?_
  refine wp_iconst (v := (nI 0)) dX8_examplesOf_2 (by decide +kernel) ?_
  refine wp_istore_n (ls1 := [_, _, _, some _]) dX8_examplesOf_3 rfl (by decide) rfl ?_
  exact hloop (rP r + 1) 0 (by omega) (by omega)
set_option maxRecDepth 20000 in
theorem pX8_partCount {h : mH} {Q : Option Value → mH → Prop} {ow : Nat → Nat} {a ρ F : Nat} {r : Nat → Int64} {pa my : Nat → Int32} (s9 : stR ow h a ρ r) (hd : sOK r F pa my) (hq : Q (some (.int (nI (sumF r (rP r) F)))) h) : Wp mX8_partCount 1 21 0 [some (.ref a), none, none] [] h Q := by
  have hP6 := hd.w.1.2
  have hF4 := hd.f4
  have hloop : ∀  (t9 : Nat) (s : Nat), (s ≤ 24) → (24 < s + t9) → Wp mX8_partCount 1 21 4 [some (.ref a), some (.int (nI (pcS r s))), some (.int (nI s))] [] h Q := by
    intro t9
    induction t9 with
    | zero => intros; omega
    | succ t9 ih =>
      intro s hs hmz
      refine wp_iload_n dX8_partCount_4 rfl rfl ?_
      refine wp_aload_n dX8_partCount_5 rfl rfl ?_
      refine wp_getR dX8_partCount_6 lX8_23 rfl s9.oo s9.r2 ?_
      refine wp_alen dX8_partCount_9 s9.a2 (by decide) (by decide) rfl ?_
      refine wp_icmp_geN dX8_partCount_10 rfl rfl ⟨by omega, by omega⟩ (fun c2 => ?_) (fun c2 => ?_)
      · refine wp_iload_n dX8_partCount_31 rfl rfl ?_
        refine wp_ireturn dX8_partCount_32 rfl ?_
        have e9 : s = 24 := by omega
        subst e9
        rw [pcS_e hd]
        exact hq
      · refine wp_iload_n dX8_partCount_13 rfl rfl ?_
        refine wp_aload_n dX8_partCount_14 rfl rfl ?_
        refine wp_getR dX8_partCount_15 lX8_23 rfl s9.oo s9.r2 ?_
        refine wp_iload_n dX8_partCount_18 rfl rfl ?_
        refine wp_laldV dX8_partCount_19 s9.a2 rfl ⟨by omega, by omega⟩ (show hL h (a + 3) s = lN (bsA (mkL r (s / 6) (s % 6))) by have := s9.c2 (f := s / 6) (p := s % 6) (by omega) (by omega); rwa [show 6 * (s / 6) + s % 6 = s by omega] at this) ?_
        refine wp_cS1 0 0 [some _, none] dX8_partCount_20 tJ13_bitCount_95d88 sJ13_bitCount_95d88 lX8_64 ⟨by decide, by decide⟩ (Nat.le_of_ble_eq_true rfl) (Nat.le_of_ble_eq_true rfl) rfl ?_
        refine pJ13_bitCount_95d88 (Nat.lt_trans (bsA_lt hd (by omega) (by omega)).1 (by decide)) ?_
        intro _ _
        rw [pop_mk hd (by omega) (by omega)]
        refine wp_iadd dX8_partCount_23 ?_
        refine wp_istore_n (ls1 := [_, some _, _]) dX8_partCount_24 rfl (by decide) rfl ?_
        refine wp_iinc1 (ls1 := [_, _, some _]) dX8_partCount_25 rfl (by decide) rfl ?_
        refine wp_goto dX8_partCount_28 ?_
        rw [nI_add]
        exact ih (s + 1) (by omega) (by omega)
  refine wp_iconst (v := (nI 0)) dX8_partCount_0 (by decide +kernel) ?_
  refine wp_istore_n (ls1 := [_, some _, _]) dX8_partCount_1 rfl (by decide) rfl ?_
  refine wp_iconst (v := (nI 0)) dX8_partCount_2 (by decide +kernel) ?_
  refine wp_istore_n (ls1 := [_, _, some _]) dX8_partCount_3 rfl (by decide) rfl ?_
  exact hloop 25 0 (by omega) (by omega)
set_option maxRecDepth 20000 in
theorem pX8_learntFields {h : mH} {Q : Option Value → mH → Prop} {ow : Nat → Nat} {a ρ F : Nat} {r : Nat → Int64} {pa my : Nat → Int32} (s9 : stR ow h a ρ r) (hd : sOK r F pa my) (hq : Q (some (.int (leS r F))) h) : Wp mX8_learntFields 0 0 0 [some (.ref a), none, none] [] h Q := by
  have hP6 := hd.w.1.2
  have hF4 := hd.f4
  have hloop : ∀  (t9 : Nat) (f : Nat), (f ≤ 4) → (4 < f + t9) → Wp mX8_learntFields 0 0 4 [some (.ref a), some (.int (leS r f)), some (.int (nI f))] [] h Q := by
    intro t9
    induction t9 with
    | zero => intros; omega
    | succ t9 ih =>
      intro f hf hmz
      refine wp_iload_n dX8_learntFields_4 rfl rfl ?_
      refine wp_iconst (v := (nI 4)) dX8_learntFields_5 (by decide +kernel) ?_
      refine wp_icmp_geN dX8_learntFields_6 rfl rfl ⟨by omega, by omega⟩ (fun c2 => ?_) (fun c2 => ?_)
      · refine wp_iload_n dX8_learntFields_30 rfl rfl ?_
        refine wp_ireturn dX8_learntFields_31 rfl ?_
        have e9 : f = 4 := by omega
        subst e9
        rw [leS_F hd]
        exact hq
      · refine wp_aload_n dX8_learntFields_9 rfl rfl ?_
        refine wp_getR dX8_learntFields_10 lX8_19 rfl s9.oo s9.r1 ?_
        refine wp_iload_n dX8_learntFields_13 rfl rfl ?_
        rcases s9.ln (f := f) (by omega) with ⟨hl1, q1, eq1, ln1⟩ | ⟨hl1, eq1⟩
        · refine wp_aaldJ dX8_learntFields_14 s9.a1 (by decide) (by decide) rfl ⟨by omega, by omega⟩ eq1 ?_
          refine wp_ifnull dX8_learntFields_15 ?_
          refine wp_iload_n dX8_learntFields_18 rfl rfl ?_
          refine wp_iconst (v := (nI 1)) dX8_learntFields_19 (by decide +kernel) ?_
          refine wp_iload_n dX8_learntFields_20 rfl rfl ?_
          refine wp_ishl dX8_learntFields_21 ?_
          refine wp_ior dX8_learntFields_22 ?_
          refine wp_istore_n (ls1 := [_, some _, _]) dX8_learntFields_23 rfl (by decide) rfl ?_
          refine wp_iinc1 (ls1 := [_, _, some _]) dX8_learntFields_24 rfl (by decide) rfl ?_
          refine wp_goto dX8_learntFields_27 ?_
          rw [← leS_1 hl1]
          exact ih (f + 1) (by omega) (by omega)
        · refine wp_aaldJ dX8_learntFields_14 s9.a1 (by decide) (by decide) rfl ⟨by omega, by omega⟩ eq1 ?_
          refine wp_ifnullN dX8_learntFields_15 ?_
          refine wp_iinc1 (ls1 := [_, _, some _]) dX8_learntFields_24 rfl (by decide) rfl ?_
          refine wp_goto dX8_learntFields_27 ?_
          rw [← leS_0 (by omega) hl1]
          exact ih (f + 1) (by omega) (by omega)
  refine wp_iconst (v := (nI 0)) dX8_learntFields_0 (by decide +kernel) ?_
  refine wp_istore_n (ls1 := [_, some _, _]) dX8_learntFields_1 rfl (by decide) rfl ?_
  refine wp_iconst (v := (nI 0)) dX8_learntFields_2 (by decide +kernel) ?_
  refine wp_istore_n (ls1 := [_, _, some _]) dX8_learntFields_3 rfl (by decide) rfl ?_
  exact hloop 5 0 (by omega) (by omega)
set_option maxRecDepth 20000 in
theorem pX3_stateAt {h : mH} {Q : Option Value → mH → Prop} {ow : Nat → Nat} {o1 k : Nat} {d1 u1 : Int32} (zh : zH ow h (nI o1) d1 u1) (kb : kB ow h) (ho : o1 < 17) (hk : k ≤ 17) (hq : Q (some (.ref (nowA o1 k))) h) : Wp mX3_stateAt 1 22 0 [some (.ref 20), some (.int (nI k))] [] h Q := by
  refine wp_aload_n dX3_stateAt_0 rfl rfl ?_
  refine wp_getR dX3_stateAt_1 lX3_11 rfl zh.o zh.r0 ?_
  refine wp_aload_n dX3_stateAt_4 rfl rfl ?_
  refine wp_getIV dX3_stateAt_5 lX3_18 rfl zh.o zh.f1 ?_
  refine wp_iload_n dX3_stateAt_8 rfl rfl ?_
  refine wp_iadd dX3_stateAt_9 ?_
  refine wp_aload_n dX3_stateAt_10 rfl rfl ?_
  refine wp_getR dX3_stateAt_11 lX3_11 rfl zh.o zh.r0 ?_
  refine wp_alen dX3_stateAt_14 kb.1.1 (by decide) (by decide) rfl ?_
  refine wp_cS2 0 0 [some _, some _, none] dX3_stateAt_15 tJ9_floorMod_7cf53 sJ9_floorMod_7cf53 lX3_22 ⟨by decide, by decide⟩ (Nat.le_of_ble_eq_true rfl) (Nat.le_of_ble_eq_true rfl) rfl ?_
  rw [nI_add]
  refine pJ9_floorMod_7cf53 (by omega) (by omega) (by omega) ?_
  intro _ _
  refine wp_aaldJ dX3_stateAt_18 kb.1.1 (by decide) (by decide) rfl ⟨Nat.mod_lt _ (by decide), by decide⟩ (kb.1.2.2 _ (Nat.mod_lt _ (by decide))) ?_
  refine wp_areturn dX3_stateAt_19 (Or.inl ⟨_, rfl⟩) ?_
  exact hq
set_option maxRecDepth 20000 in
theorem pX3_now {h : mH} {Q : Option Value → mH → Prop} {ow : Nat → Nat} {o1 d1 : Nat} {u1 : Int32} (zh : zH ow h (nI o1) (nI d1) u1) (kb : kB ow h) (ho : o1 < 17) (hd : d1 ≤ 16) (hq : Q (some (.ref (nowA o1 d1))) h) : Wp mX3_now 2 43 0 [some (.ref 20)] [] h Q := by
  refine wp_aload_n dX3_now_0 rfl rfl ?_
  refine wp_aload_n dX3_now_1 rfl rfl ?_
  refine wp_getIV dX3_now_2 lX3_28 rfl zh.o zh.f2 ?_
  refine wp_cV1 1 22 [some _, some _] dX3_now_5 tX3_stateAt rfl (by decide) nX3_stateAt vX3_stateAt lX3_31 ⟨by decide, by decide⟩ (Nat.le_of_ble_eq_true rfl) zh.o (Nat.le_of_ble_eq_true rfl) rfl ?_
  refine pX3_stateAt zh kb ho (by omega) ?_
  intro _ _
  refine wp_areturn dX3_now_8 (Or.inl ⟨_, rfl⟩) ?_
  exact hq
