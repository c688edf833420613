/-! ===== the table of a field ===== -/
def tabI (ow : Nat → Nat) (h : mH) (r : Nat → Int64) (pa my : Nat → Int32) (F f n m : Nat) : Prop := ∃ a2 a3 a4 a5 a6 a7 tf tc t2 t3 t4 t5 t6 t7 tp, zT ow h (125 + 7 * f) (11 + f) n m a2 a3 a4 a5 a6 a7 tf tc t2 t3 t4 t5 t6 t7 tp ∧ ((64 ≤ m ∧ m ≤ 20480) ∧ 64 ≤ n ∧ n ≤ 20480) ∧ (tf = nI 0 ∨ (tf = nI 1 ∧ f < F ∧ ∃ c K O, tbC r pa my f n c K O tc t2 t3 t4 t5))
theorem tabI.fr {S : List Nat} {u9 : Nat} {ow ow' : Nat → Nat} {h h' : mH} {r : Nat → Int64} {pa my : Nat → Int32} {F f n m : Nat} (g : tabI ow h r pa my F f n m) (f9 : cFr S u9 ow h ow' h') (h1 : 11 + f ∉ S) : tabI ow' h' r pa my F f n m := by
  obtain ⟨a2, a3, a4, a5, a6, a7, tf, tc, t2, t3, t4, t5, t6, t7, tp, z, hz⟩ := g
  exact ⟨a2, a3, a4, a5, a6, a7, tf, tc, t2, t3, t4, t5, t6, t7, tp, z.fr f9 h1, hz⟩
theorem tbR.I {ow : Nat → Nat} {h : mH} {r : Nat → Int64} {pa my : Nat → Int32} {F f n m c : Nat} {K O : Nat → Nat} (g : tbR ow h (125 + 7 * f) (11 + f) (nI 1) r pa my f n m c K O) (hf : f < F) : tabI ow h r pa my F f n m := by
  obtain ⟨a2, a3, a4, a5, a6, a7, tc, t2, t3, t4, t5, t6, t7, tp, z, hb, ht⟩ := g
  exact ⟨a2, a3, a4, a5, a6, a7, nI 1, tc, t2, t3, t4, t5, t6, t7, tp, z, hb, Or.inr ⟨rfl, hf, c, K, O, ht⟩⟩
theorem tabI.b {ow : Nat → Nat} {h : mH} {r : Nat → Int64} {pa my : Nat → Int32} {F f n m : Nat} (g : tabI ow h r pa my F f n m) : (64 ≤ m ∧ m ≤ 20480) ∧ 64 ≤ n ∧ n ≤ 20480 := by
  obtain ⟨a2, a3, a4, a5, a6, a7, tf, tc, t2, t3, t4, t5, t6, t7, tp, z, hb, hz⟩ := g
  exact hb
/-- two that enumerate one set -/
theorem en_le {n m : Nat} {K L : Nat → Nat} (hi : ∀ i j, i < n → j < n → K i = K j → i = j) (h : ∀ i, i < n → ∃ j, j < m ∧ L j = K i) : n ≤ m := by
  apply Classical.byContradiction
  intro z
  obtain ⟨X, hX⟩ : ∃ X : Nat → Nat, ∀ i, i < n → X i < m ∧ L (X i) = K i := by
    refine ⟨fun i => if hi : i < n then (h i hi).choose else 0, fun i hi9 => ?_⟩
    have e : (fun i => if hi : i < n then (h i hi).choose else 0) i = (h i hi9).choose := dif_pos hi9
    rw [e]
    exact (h i hi9).choose_spec
  obtain ⟨i, j, h1, h2, h3⟩ := pgn m X (fun i hi9 => (hX i (by omega)).1)
  have := hi i j (by omega) (by omega) (by rw [← (hX i (by omega)).2, ← (hX j (by omega)).2, h3])
  omega
theorem en_eq {n m : Nat} {K L : Nat → Nat} (hi : ∀ i j, i < n → j < n → K i = K j → i = j) (hj : ∀ i j, i < m → j < m → L i = L j → i = j) (h : ∀ i, i < n → ∃ j, j < m ∧ L j = K i) (g : ∀ j, j < m → ∃ i, i < n ∧ K i = L j) : n = m := Nat.le_antisymm (en_le hi h) (en_le hj g)
/-- .. and a count over it -/
theorem cnt_en {n m : Nat} {K L : Nat → Nat} {P : Nat → Bool} (hi : ∀ i j, i < n → j < n → K i = K j → i = j) (hj : ∀ i j, i < m → j < m → L i = L j → i = j) (h : ∀ i, i < n → ∃ j, j < m ∧ L j = K i) (g : ∀ j, j < m → ∃ i, i < n ∧ K i = L j) : cntB (fun i => P (K i)) n = cntB (fun j => P (L j)) m := by
  have key : ∀ (n : Nat) (K : Nat → Nat), (∀ i j, i < n → j < n → K i = K j → i = j) → ∃ Z : Nat → Nat, (∀ i, i < cntB (fun i => P (K i)) n → ∃ x, x < n ∧ Z i = K x ∧ P (K x) = true) ∧ (∀ x, x < n → P (K x) = true → ∃ i, i < cntB (fun i => P (K i)) n ∧ Z i = K x) ∧ ∀ i j, i < cntB (fun i => P (K i)) n → j < cntB (fun i => P (K i)) n → Z i = Z j → i = j := by
    intro n K
    induction n with
    | zero => intro _; exact ⟨K, fun i hi => absurd hi (Nat.not_lt_zero i), fun x hx => absurd hx (Nat.not_lt_zero x), fun i j hi => absurd hi (Nat.not_lt_zero i)⟩
    | succ n ih =>
      intro hin
      obtain ⟨Z, z1, z2, z3⟩ := ih (fun i j a b e => hin i j (by omega) (by omega) e)
      cases hp : P (K n) with
      | false =>
        have e : cntB (fun i => P (K i)) (n + 1) = cntB (fun i => P (K i)) n := cntB_s0 hp
        rw [e]
        refine ⟨Z, fun i hi => ?_, fun x hx hpx => ?_, z3⟩
        · obtain ⟨x, a, b⟩ := z1 i hi; exact ⟨x, by omega, b⟩
        · refine z2 x ?_ hpx
          by_cases c : x = n
          · rw [c, hp] at hpx; cases hpx
          · omega
      | true =>
        have e : cntB (fun i => P (K i)) (n + 1) = cntB (fun i => P (K i)) n + 1 := cntB_s1 hp
        rw [e]
        refine ⟨upN Z (cntB (fun i => P (K i)) n) (K n), fun i hi => ?_, fun x hx hpx => ?_, fun i j hi hj9 h9 => ?_⟩
        · by_cases c : i = cntB (fun i => P (K i)) n
          · exact ⟨n, by omega, by rw [c, upN_at], hp⟩
          · obtain ⟨x, a, b, d⟩ := z1 i (by omega)
            exact ⟨x, by omega, by rw [upN_ne c]; exact b, d⟩
        · by_cases c : x = n
          · exact ⟨cntB (fun i => P (K i)) n, by omega, by rw [c, upN_at]⟩
          · obtain ⟨i, a, b⟩ := z2 x (by omega) hpx
            exact ⟨i, by omega, by rw [upN_ne (by omega)]; exact b⟩
        · by_cases c : i = cntB (fun i => P (K i)) n
          · by_cases d : j = cntB (fun i => P (K i)) n
            · omega
            · rw [c, upN_at, upN_ne d] at h9
              obtain ⟨x, a, b, _⟩ := z1 j (by omega)
              have := hin n x (by omega) (by omega) (h9.trans b)
              omega
          · by_cases d : j = cntB (fun i => P (K i)) n
            · rw [d, upN_at, upN_ne c] at h9
              obtain ⟨x, a, b, _⟩ := z1 i (by omega)
              have := hin x n (by omega) (by omega) (b.symm.trans h9)
              omega
            · rw [upN_ne c, upN_ne d] at h9
              exact z3 i j (by omega) (by omega) h9
  obtain ⟨Z, z1, z2, z3⟩ := key n K hi
  obtain ⟨Y, y1, y2, y3⟩ := key m L hj
  refine en_eq (K := Z) (L := Y) z3 y3 (fun i hi9 => ?_) (fun j hj9 => ?_)
  · obtain ⟨x, a, b, d⟩ := z1 i hi9
    obtain ⟨j, e1, e2⟩ := h x a
    obtain ⟨u, w1, w2⟩ := y2 j e1 (by rw [e2]; exact d)
    exact ⟨u, w1, by rw [w2, e2, b]⟩
  · obtain ⟨x, a, b, d⟩ := y1 j hj9
    obtain ⟨i, e1, e2⟩ := g x a
    obtain ⟨u, w1, w2⟩ := z2 i e1 (by rw [e2]; exact d)
    exact ⟨u, w1, by rw [w2, e2, b]⟩
theorem ru_en {r : Nat → Int64} {pa : Nat → Int32} {f c : Nat} {K O : Nat → Nat} (g : ruS r pa f c K O) : (∀ i j, i < c → j < c → K i = K j → i = j) := fun i j hi hj e => by
  rcases Nat.lt_trichotomy i j with z | z | z
  · have := g.1 i j z hj; omega
  · exact z
  · have := g.1 j i z hi; omega
theorem ru_same {r : Nat → Int64} {F : Nat} {pa my : Nat → Int32} {f c n : Nat} {K O L : Nat → Nat} (hd : sOK r F pa my) (g : ruS r pa f c K O) (e : enP r pa f (exE r f) n L) : (∀ i, i < n → ∃ j, j < c ∧ K j = L i) ∧ ∀ j, j < c → ∃ i, i < n ∧ L i = K j := by
  obtain ⟨e1, e2, e3, e4, e5⟩ := e
  have hP6 := hd.w.1.2
  refine ⟨fun i hi => ?_, fun j hj => ?_⟩
  · obtain ⟨p, h1, h2, h3⟩ := e5 i hi
    exact g.2.2.1 p (L i) h2 h3
  · obtain ⟨p, h1, h2⟩ := g.2.2.2 j hj
    have := (exE_tb h1).1
    exact e4 p (by omega) h1 (K j) h2
set_option maxRecDepth 20000 in
theorem pX9_goodOnes {h : mH} {Q : Option Value → mH → Prop} {ow : Nat → Nat} {a ρ : Nat} {tf : Int32} {r : Nat → Int64} {pa my : Nat → Int32} {f n m c : Nat} {K O : Nat → Nat} (tb : tbR ow h a ρ tf r pa my f n m c K O) (hq : Q (some (.int (nI (cntB (fun i => decide (tvm r pa my f (exE r f) 2 (K i) 6 = 0)) c)))) h) : Wp mX9_goodOnes 0 0 0 [some (.ref a), none, none] [] h Q := by
  obtain ⟨a2, a3, a4, a5, a6, a7, tc, t2, t3, t4, t5, t6, t7, tp, zt, hb9, rfl, hcn, hR, ru⟩ := tb
  have hloop : ∀  (t9 : Nat) (i : Nat), (i ≤ c) → (c < i + t9) → Wp mX9_goodOnes 0 0 4 [some (.ref a), some (.int (nI (cntB (fun i => decide (tvm r pa my f (exE r f) 2 (K i) 6 = 0)) i))), some (.int (nI i))] [] h Q := by
    intro t9
    induction t9 with
    | zero => intros; omega
    | succ t9 ih =>
      intro i hi hmz
      refine wp_iload_n dX9_goodOnes_4 rfl rfl ?_
      refine wp_aload_n dX9_goodOnes_5 rfl rfl ?_
      refine wp_getIV dX9_goodOnes_6 lX9_133 rfl zt.o zt.f1 ?_
      refine wp_icmp_geN dX9_goodOnes_9 rfl rfl ⟨by omega, by omega⟩ (fun c2 => ?_) (fun c2 => ?_)
      · refine wp_iload_n dX9_goodOnes_30 rfl rfl ?_
        refine wp_ireturn dX9_goodOnes_31 rfl ?_
        have ei9 : i = c := by omega
        subst ei9
        exact hq
      · refine wp_aload_n dX9_goodOnes_12 rfl rfl ?_
        refine wp_getR dX9_goodOnes_13 lX9_22 rfl zt.o zt.r5 ?_
        refine wp_iload_n dX9_goodOnes_16 rfl rfl ?_
        refine wp_ialdV dX9_goodOnes_17 zt.a5 rfl ⟨by omega, by omega⟩ ((congrFun zt.c5 _).trans (hR i (by omega)).2.2) ?_
        refine wp_if_neN dX9_goodOnes_18 rfl (by have := tvm_lt (r := r) (pa := pa) (my := my) (f := f) (S := exE r f) (v := 2) (k := K i) 6 (by decide); omega) (fun c3 => ?_) (fun c3 => ?_)
        · refine wp_iinc1 (ls1 := [_, _, some _]) dX9_goodOnes_24 rfl (by decide) rfl ?_
          refine wp_goto dX9_goodOnes_27 ?_
          have ec9 : cntB (fun i => decide (tvm r pa my f (exE r f) 2 (K i) 6 = 0)) (i + 1) = cntB (fun i => decide (tvm r pa my f (exE r f) 2 (K i) 6 = 0)) i := cntB_s0 (decide_eq_false (by omega))
          rw [← ec9]
          exact ih (i + 1) (by omega) (by omega)
        · refine wp_iinc1 (ls1 := [_, some _, _]) dX9_goodOnes_21 rfl (by decide) rfl ?_
          refine wp_iinc1 (ls1 := [_, _, some _]) dX9_goodOnes_24 rfl (by decide) rfl ?_
          refine wp_goto dX9_goodOnes_27 ?_
          have ec9 : cntB (fun i => decide (tvm r pa my f (exE r f) 2 (K i) 6 = 0)) (i + 1) = cntB (fun i => decide (tvm r pa my f (exE r f) 2 (K i) 6 = 0)) i + 1 := cntB_s1 (decide_eq_true (by assumption))
          rw [← ec9]
          exact ih (i + 1) (by omega) (by omega)
  refine wp_iconst (v := (nI 0)) dX9_goodOnes_0 (by decide +kernel) ?_
  refine wp_istore_n (ls1 := [_, some _, _]) dX9_goodOnes_1 rfl (by decide) rfl ?_
  refine wp_iconst (v := (nI 0)) dX9_goodOnes_2 (by decide +kernel) ?_
  refine wp_istore_n (ls1 := [_, _, some _]) dX9_goodOnes_3 rfl (by decide) rfl ?_
  exact hloop (c + 1) 0 (by omega) (by omega)
theorem scr_f {f : Nat} (hf : f < 4) : ∀ x ∈ [11 + f], x ∈ scrR := fun x hx => by
  simp at hx
  subst hx
  rcases (by omega : f = 0 ∨ f = 1 ∨ f = 2 ∨ f = 3) with rfl | rfl | rfl | rfl <;> decide
theorem scr_f1 {f : Nat} (hf : f < 4) : ∀ x ∈ [1, 11 + f], x ∈ scrR := fun x hx => by
  simp at hx
  rcases hx with rfl | rfl
  · decide
  · rcases (by omega : f = 0 ∨ f = 1 ∨ f = 2 ∨ f = 3) with rfl | rfl | rfl | rfl <;> decide
theorem tTk_o {ow : Nat → Nat} {h : mH} {a ρ n m c : Nat} {K O : Nat → Nat} (g : tTk ow h a ρ n m c K O) : hO h a 9 := by
  obtain ⟨a2, a3, a4, a5, a6, a7, tf, t2, t3, t4, t5, t6, t7, tp, z, hz⟩ := g
  exact z.o
set_option maxRecDepth 20000 in
theorem pX11_tableOf {h : mH} {Q : Option Value → mH → Prop} {ow : Nat → Nat} {F fa o1 d1 u1 : Nat} {pa my : Nat → Int32} {r : Nat → Int64} {pl : Nat → Int64} {gb ge : Int32} {gs gn : Int64} {gf gt : Int32} {f n m : Nat} (e9 : eS ow h F pa my r fa o1 d1 u1) (hd : sOK r F pa my) (zg : zG ow h pl gb ge gs gn gf gt) (ti : tabI ow h r pa my F f n m) (hf : f < F) (hrm : hU h + 8 * hN h + 5 * (20480 - m) + 9 * (20480 - n) ≤ 8000000) (hq : ∀ h' ow' n' m' c K O, cFr [1, 11 + f] (5 * (m' - m) + 9 * (n' - n)) ow h ow' h' → (m ≤ m' ∧ m' ≤ 20480 ∧ n ≤ n' ∧ n' ≤ 20480) → tbR ow' h' (125 + 7 * f) (11 + f) (nI 1) r pa my f n' m' c K O → (∃ pl gb ge gs gn gf gt, zG ow' h' pl gb ge gs gn gf gt) → Q (some (.ref (125 + 7 * f))) h') : Wp mX11_tableOf 6 162 0 [some (.ref 0), some (.int (nI f)), none, none] [] h Q := by
  have hP6 := hd.w.1.2
  have hF4 := hd.f4
  obtain ⟨a2, a3, a4, a5, a6, a7, tf, tc, t2, t3, t4, t5, t6, t7, tp, zt, hb9, hfr⟩ := ti
  refine wp_aload_n dX11_tableOf_0 rfl rfl ?_
  refine wp_getR dX11_tableOf_1 lX11_46 rfl e9.oo e9.r8 ?_
  refine wp_iload_n dX11_tableOf_4 rfl rfl ?_
  refine wp_aaldJ dX11_tableOf_5 e9.kb.2.1.1 (by decide) (by decide) rfl ⟨by omega, by omega⟩ (e9.kb.2.1.2.2 f (by omega)) ?_
  refine wp_astore_n (ls1 := [_, _, some _, _]) dX11_tableOf_6 rfl (by decide) rfl ?_
  refine wp_aload_n dX11_tableOf_7 rfl rfl ?_
  refine wp_getIV dX11_tableOf_8 lX11_272 rfl zt.o zt.f0 ?_
  rcases hfr with e8 | ⟨e8, _, c0, K0, O0, hc0⟩
  · subst e8
    refine wp_if_ne dX11_tableOf_11 (fun q => absurd rfl q) (fun _ => ?_)
    refine wp_aload_n dX11_tableOf_14 rfl rfl ?_
    refine wp_getR dX11_tableOf_15 lX11_34 rfl e9.oo e9.r6 ?_
    refine wp_cV0 2 43 [some _] dX11_tableOf_18 tX3_now rfl (by decide) nX3_now vX3_now lX11_101 ⟨by decide, by decide⟩ (Nat.le_of_ble_eq_true rfl) e9.hh.o (Nat.le_of_ble_eq_true rfl) rfl ?_
    refine pX3_now e9.hh e9.kb e9.od.1 e9.od.2 ?_
    intro _ _
    refine wp_astore_n (ls1 := [_, _, _, some _]) dX11_tableOf_21 rfl (by decide) rfl ?_
    refine wp_aload_n dX11_tableOf_22 rfl rfl ?_
    refine wp_aload_n dX11_tableOf_23 rfl rfl ?_
    refine wp_aload_n dX11_tableOf_24 rfl rfl ?_
    refine wp_getR dX11_tableOf_25 lX11_20 rfl e9.oo e9.f4 ?_
    refine wp_iload_n dX11_tableOf_28 rfl rfl ?_
    refine wp_aload_n dX11_tableOf_29 rfl rfl ?_
    refine wp_getR dX11_tableOf_30 lX11_60 rfl e9.oo e9.r10 ?_
    refine wp_cV4 5 134 [some _, some _, some _, some _, some _, none, none, none, none] dX11_tableOf_33 tX9_collect rfl (by decide) nX9_collect vX9_collect lX11_408 ⟨by decide, by decide⟩ (Nat.le_of_ble_eq_true rfl) zt.o (Nat.le_of_ble_eq_true rfl) rfl ?_
    refine pX9_collect zt hb9 (by omega) zg e9.st (Nat.le_add_right _ _) e9.fl hd hf (by omega) (fun hh1 ow1 m1 n1 cc1 K1 O1 f1 hmn1 tk1 gg1 ru1 => ?_)
    intro _ _
    obtain ⟨_, _, _, _, _, _, _, zg_1⟩ := gg1
    have e9_1 := e9.fr f1 (scr_f1 (by omega))
    refine wp_aload_n dX11_tableOf_36 rfl rfl ?_
    refine wp_aload_n dX11_tableOf_37 rfl rfl ?_
    refine wp_aload_n dX11_tableOf_38 rfl rfl ?_
    refine wp_getR dX11_tableOf_39 lX11_20 rfl e9_1.oo e9_1.f4 ?_
    refine wp_iload_n dX11_tableOf_42 rfl rfl ?_
    refine wp_aload_n dX11_tableOf_43 rfl rfl ?_
    refine wp_getR dX11_tableOf_44 lX11_60 rfl e9_1.oo e9_1.r10 ?_
    refine wp_cV4 4 95 [some _, some _, some _, some _, some _, none, none, none, none] dX11_tableOf_47 tX9_judge rfl (by decide) nX9_judge vX9_judge lX11_412 ⟨by decide, by decide⟩ (Nat.le_of_ble_eq_true rfl) (tTk_o tk1) (Nat.le_of_ble_eq_true rfl) rfl ?_
    refine pX9_judge tk1 ru1 (by omega) zg_1 e9_1.st (Nat.le_add_right _ _) e9_1.fl hd hf (fun hh2 f2 tb2 gg2 => ?_)
    intro _ _
    obtain ⟨tf2, b2, b3, b4, b5, b6, b7, tc2, u2, u3, u4, u5, u6, u7, tp2, zt2, hbb2, hcc2⟩ := tb2
    obtain ⟨_, _, _, _, _, _, _, zg_2⟩ := gg2
    have e9_2 := e9_1.fr f2 (scr_f1 (by omega))
    refine wp_aload_n dX11_tableOf_50 rfl rfl ?_
    refine wp_iconst (v := (nI 1)) dX11_tableOf_51 (by decide +kernel) ?_
    refine wp_putI dX11_tableOf_52 lX11_272 rfl (Or.inl rfl) zt2.o (by decide +kernel) (by decide +kernel) ?_
    refine zt2.p0 (fun hh3 f3 zt2_3 => ?_)
    have e9_3 := e9_2.fr f3 (scr_f (by omega))
    have zg_3 := zg_2.fr f3 (rnS (by omega) rn0)
    refine wp_aload_n dX11_tableOf_55 rfl rfl ?_
    refine wp_areturn dX11_tableOf_56 (Or.inl ⟨_, rfl⟩) ?_
    exact hq _ _ n1 m1 cc1 K1 O1 (((f1.tr f2).tr (f3.up (fun x hx => by simp at hx ⊢; omega) (Nat.le_refl _))).up (fun _ h => h) (by omega)) (by omega) ⟨_, _, _, _, _, _, _, _, _, _, _, _, _, _, zt2_3, hbb2, hcc2⟩ ⟨_, _, _, _, _, _, _, zg_3⟩
  · subst e8
    refine wp_if_ne dX11_tableOf_11 (fun _ => ?_) (fun q => absurd q (by decide +kernel))
    refine wp_aload_n dX11_tableOf_55 rfl rfl ?_
    refine wp_areturn dX11_tableOf_56 (Or.inl ⟨_, rfl⟩) ?_
    exact hq _ _ n m c0 K0 O0 (cFr.rf.up (fun _ h => h) (by omega)) (by omega) ⟨_, _, _, _, _, _, _, _, _, _, _, _, _, _, zt, hb9, hc0⟩ ⟨_, _, _, _, _, _, _, zg⟩
