/-! ===== rows made anew within an object ===== -/
def rlc (h h' : mH) (a k kd n : Nat) : Prop := hN h' = hN h + 1 ∧ hU h' = hU h + n ∧ hA h' (hN h) kd n ∧ (∀ x, x < hN h ∨ x = scrA → hK h' x = hK h x ∧ (x ≠ a → cSm h h' x)) ∧ hI h' a = hI h a ∧ hL h' a = hL h a ∧ ∀ y, hR h' a y = if y = k then some (hN h) else hR h a y
theorem nwC_nw {h : mH} {kd n : Nat} : nwC h (nw h kd n) kd n := ⟨rfl, rfl, ⟨Nat.lt_succ_self _, by rw [hK_nw, if_pos rfl]⟩, fun x hx => ⟨by rw [hK_nw, if_neg hx], funext fun y => by rw [hI_nw, if_neg hx], funext fun y => by rw [hL_nw, if_neg hx], funext fun y => by rw [hR_nw, if_neg hx]⟩⟩
theorem rlc_of {h g : mH} {a k kd n : Nat} (ha : a < hN h) (hz : hN h < scrA) (w : nwC h g kd n) : rlc h (sR g a k (some (hN h))) a k kd n := by
  obtain ⟨w1, w2, w3, w4⟩ := w
  have hne : a ≠ hN h := Nat.ne_of_lt ha
  obtain ⟨s1, s2, s3, s4⟩ := w4 a hne
  refine ⟨w1, w2, w3, fun x hx => ?_, s2, s3, fun y => ?_⟩
  · have hxn : x ≠ hN h := by omega
    obtain ⟨q1, q2, q3, q4⟩ := w4 x hxn
    refine ⟨q1, fun hxa => ⟨q2, q3, ?_⟩⟩
    exact (up2_ne hxa).trans q4
  · rw [hR_sR]
    by_cases z : y = k
    · rw [if_pos ⟨rfl, z⟩, if_pos z]
    · rw [if_neg (fun w => z w.2), if_neg z, s4]
theorem rlc.fr {h h' : mH} {a k kd n ρ : Nat} {ow : Nat → Nat} (q : rlc h h' a k kd n) (e : ow a = ρ) (hz : hN h < scrA) : cFr [ρ] (n + 8) ow h (upN ow (hN h) ρ) h' := by
  obtain ⟨q1, q2, q3, q4, q5, q6, q7⟩ := q
  refine ⟨⟨by omega, by omega, by omega⟩, fun x hx => ⟨(q4 x hx).1, if_neg (by omega), fun z => (q4 x hx).2 (fun w => z (by rw [w, e]; exact List.mem_singleton.mpr rfl))⟩⟩
theorem rlc.a {h h' : mH} {a k kd n b kb nb : Nat} (q : rlc h h' a k kd n) (hb : hA h b kb nb) : hA h' b kb nb := ⟨by have := q.1; have := hb.1; omega, ((q.2.2.2.1 b (Or.inl hb.1)).1).trans hb.2⟩
theorem rlc.o {h h' : mH} {a k kd n b cb : Nat} (q : rlc h h' a k kd n) (hb : hO h b cb) : hO h' b cb := ⟨by have := q.1; have := hb.1; omega, by rw [(q.2.2.2.1 b (Or.inl hb.1)).1]; exact hb.2⟩
theorem rlc.L {h h' : mH} {a k kd n b : Nat} (q : rlc h h' a k kd n) (hb : b < hN h) (hne : b ≠ a) : hL h' b = hL h b := ((q.2.2.2.1 b (Or.inl hb)).2 hne).2.1
theorem rlc.I {h h' : mH} {a k kd n b : Nat} (q : rlc h h' a k kd n) (hb : b < hN h) (hne : b ≠ a) : hI h' b = hI h b := ((q.2.2.2.1 b (Or.inl hb)).2 hne).1
theorem rlc.R {h h' : mH} {a k kd n y : Nat} (q : rlc h h' a k kd n) (hy : y ≠ k) : hR h' a y = hR h a y := (q.2.2.2.2.2.2 y).trans (if_neg hy)
theorem rlc.Rk {h h' : mH} {a k kd n : Nat} (q : rlc h h' a k kd n) : hR h' a k = some (hN h) := (q.2.2.2.2.2.2 k).trans (if_pos rfl)
theorem up_lt {ow : Nat → Nat} {a b ρ : Nat} (h : a < b) : upN ow b ρ a = ow a := if_neg (by omega)
theorem up_at {ow : Nat → Nat} {b ρ : Nat} : upN ow b ρ b = ρ := if_pos rfl
theorem zT.gr {ow : Nat → Nat} {h0 : mH} {a ρ n m a2 a3 a4 a5 a6 a7 : Nat} {tf : Int32} {tc : Int32} {t2 : Nat → Int64} {t3 : Nat → Int32} {t4 : Nat → Int32} {t5 : Nat → Int32} {t6 : Nat → Int64} {t7 : Nat → Int64} {tp : Int32} {h1 h2 : mH} {k2 : Nat} (g : zT ow h0 a ρ n m a2 a3 a4 a5 a6 a7 tf tc t2 t3 t4 t5 t6 t7 tp) (hz : hN h0 + 2 < scrA) (q1 : rlc h0 h1 a 6 15 k2) (q2 : rlc h1 h2 a 7 15 k2) : cFr [ρ] (2 * (k2 + 8)) ow h0 (upN (upN ow (hN h0) ρ) (hN h0 + 1) ρ) h2 ∧ zT (upN (upN ow (hN h0) ρ) (hN h0 + 1) ρ) h2 a ρ n k2 a2 a3 a4 a5 (hN h0) (hN h0 + 1) tf tc t2 t3 t4 t5 (hL h2 (hN h0)) (hL h2 (hN h0 + 1)) tp := by
  have ne9 := g.ne
  have ga := g.o.1
  have la2 := g.a2.1
  have la3 := g.a3.1
  have la4 := g.a4.1
  have la5 := g.a5.1
  have la6 := g.a6.1
  have la7 := g.a7.1
  have n1 : hN h1 = hN h0 + 1 := by have := q1.1; omega
  have n2 : hN h2 = hN h0 + 2 := by have := q2.1; omega
  have f1 := q1.fr g.w (by omega)
  have f2 := q2.fr (ρ := ρ) (ow := (upN ow (hN h0) ρ)) (by rw [up_lt (by omega)]; exact g.w) (by omega)
  rw [n1] at f2
  exact ⟨(f1.tr f2).up (fun _ h => h) (by omega), (q2.o (q1.o g.o)), (by rw [up_lt (by omega), up_lt (by omega)]; exact g.w), (by omega), ((congrFun q2.2.2.2.2.1 0).trans ((congrFun q1.2.2.2.2.1 0).trans g.f0)), ((congrFun q2.2.2.2.2.1 1).trans ((congrFun q1.2.2.2.2.1 1).trans g.f1)), (((q2.R (y := 2) (by decide)).trans (q1.R (y := 2) (by decide))).trans g.r2), (q2.a (q1.a g.a2)), (by rw [up_lt (by omega), up_lt (by omega)]; exact g.v2), ((q2.L (by omega) (by omega)).trans ((q1.L (by omega) (by omega)).trans g.c2)), (((q2.R (y := 3) (by decide)).trans (q1.R (y := 3) (by decide))).trans g.r3), (q2.a (q1.a g.a3)), (by rw [up_lt (by omega), up_lt (by omega)]; exact g.v3), ((q2.I (by omega) (by omega)).trans ((q1.I (by omega) (by omega)).trans g.c3)), (((q2.R (y := 4) (by decide)).trans (q1.R (y := 4) (by decide))).trans g.r4), (q2.a (q1.a g.a4)), (by rw [up_lt (by omega), up_lt (by omega)]; exact g.v4), ((q2.I (by omega) (by omega)).trans ((q1.I (by omega) (by omega)).trans g.c4)), (((q2.R (y := 5) (by decide)).trans (q1.R (y := 5) (by decide))).trans g.r5), (q2.a (q1.a g.a5)), (by rw [up_lt (by omega), up_lt (by omega)]; exact g.v5), ((q2.I (by omega) (by omega)).trans ((q1.I (by omega) (by omega)).trans g.c5)), ((q2.R (y := 6) (by decide)).trans (q1.Rk.trans (congrArg some (show hN h0 = hN h0 by omega)))), (q2.a (show hA h1 (hN h0) 15 k2 by have z := q1.2.2.1; rwa [show hN h0 = hN h0 by omega] at z)), (by rw [up_lt (by omega), up_at]), rfl, (q2.Rk.trans (congrArg some (show hN h1 = hN h0 + 1 by omega))), (show hA h2 (hN h0 + 1) 15 k2 by have z := q2.2.2.1; rwa [show hN h1 = hN h0 + 1 by omega] at z), (by rw [up_at]), rfl, ((congrFun q2.2.2.2.2.1 8).trans ((congrFun q1.2.2.2.2.1 8).trans g.f8))⟩
theorem zT.mr {ow : Nat → Nat} {h0 : mH} {a ρ n m a2 a3 a4 a5 a6 a7 : Nat} {tf : Int32} {tc : Int32} {t2 : Nat → Int64} {t3 : Nat → Int32} {t4 : Nat → Int32} {t5 : Nat → Int32} {t6 : Nat → Int64} {t7 : Nat → Int64} {tp : Int32} {h1 h2 h3 h4 : mH} {k2 : Nat} (g : zT ow h0 a ρ n m a2 a3 a4 a5 a6 a7 tf tc t2 t3 t4 t5 t6 t7 tp) (hz : hN h0 + 4 < scrA) (q1 : rlc h0 h1 a 2 15 k2) (q2 : rlc h1 h2 a 3 14 k2) (q3 : rlc h2 h3 a 4 14 k2) (q4 : rlc h3 h4 a 5 14 k2) : cFr [ρ] (4 * (k2 + 8)) ow h0 (upN (upN (upN (upN ow (hN h0) ρ) (hN h0 + 1) ρ) (hN h0 + 2) ρ) (hN h0 + 3) ρ) h4 ∧ zT (upN (upN (upN (upN ow (hN h0) ρ) (hN h0 + 1) ρ) (hN h0 + 2) ρ) (hN h0 + 3) ρ) h4 a ρ k2 m (hN h0) (hN h0 + 1) (hN h0 + 2) (hN h0 + 3) a6 a7 tf tc (hL h4 (hN h0)) (hI h4 (hN h0 + 1)) (hI h4 (hN h0 + 2)) (hI h4 (hN h0 + 3)) t6 t7 tp := by
  have ne9 := g.ne
  have ga := g.o.1
  have la2 := g.a2.1
  have la3 := g.a3.1
  have la4 := g.a4.1
  have la5 := g.a5.1
  have la6 := g.a6.1
  have la7 := g.a7.1
  have n1 : hN h1 = hN h0 + 1 := by have := q1.1; omega
  have n2 : hN h2 = hN h0 + 2 := by have := q2.1; omega
  have n3 : hN h3 = hN h0 + 3 := by have := q3.1; omega
  have n4 : hN h4 = hN h0 + 4 := by have := q4.1; omega
  have f1 := q1.fr g.w (by omega)
  have f2 := q2.fr (ρ := ρ) (ow := (upN ow (hN h0) ρ)) (by rw [up_lt (by omega)]; exact g.w) (by omega)
  rw [n1] at f2
  have f3 := q3.fr (ρ := ρ) (ow := (upN (upN ow (hN h0) ρ) (hN h0 + 1) ρ)) (by rw [up_lt (by omega), up_lt (by omega)]; exact g.w) (by omega)
  rw [n2] at f3
  have f4 := q4.fr (ρ := ρ) (ow := (upN (upN (upN ow (hN h0) ρ) (hN h0 + 1) ρ) (hN h0 + 2) ρ)) (by rw [up_lt (by omega), up_lt (by omega), up_lt (by omega)]; exact g.w) (by omega)
  rw [n3] at f4
  exact ⟨(((f1.tr f2).tr f3).tr f4).up (fun _ h => h) (by omega), (q4.o (q3.o (q2.o (q1.o g.o)))), (by rw [up_lt (by omega), up_lt (by omega), up_lt (by omega), up_lt (by omega)]; exact g.w), (by omega), ((congrFun q4.2.2.2.2.1 0).trans ((congrFun q3.2.2.2.2.1 0).trans ((congrFun q2.2.2.2.2.1 0).trans ((congrFun q1.2.2.2.2.1 0).trans g.f0)))), ((congrFun q4.2.2.2.2.1 1).trans ((congrFun q3.2.2.2.2.1 1).trans ((congrFun q2.2.2.2.2.1 1).trans ((congrFun q1.2.2.2.2.1 1).trans g.f1)))), ((q4.R (y := 2) (by decide)).trans ((q3.R (y := 2) (by decide)).trans ((q2.R (y := 2) (by decide)).trans (q1.Rk.trans (congrArg some (show hN h0 = hN h0 by omega)))))), (q4.a (q3.a (q2.a (show hA h1 (hN h0) 15 k2 by have z := q1.2.2.1; rwa [show hN h0 = hN h0 by omega] at z)))), (by rw [up_lt (by omega), up_lt (by omega), up_lt (by omega), up_at]), rfl, ((q4.R (y := 3) (by decide)).trans ((q3.R (y := 3) (by decide)).trans (q2.Rk.trans (congrArg some (show hN h1 = hN h0 + 1 by omega))))), (q4.a (q3.a (show hA h2 (hN h0 + 1) 14 k2 by have z := q2.2.2.1; rwa [show hN h1 = hN h0 + 1 by omega] at z))), (by rw [up_lt (by omega), up_lt (by omega), up_at]), rfl, ((q4.R (y := 4) (by decide)).trans (q3.Rk.trans (congrArg some (show hN h2 = hN h0 + 2 by omega)))), (q4.a (show hA h3 (hN h0 + 2) 14 k2 by have z := q3.2.2.1; rwa [show hN h2 = hN h0 + 2 by omega] at z)), (by rw [up_lt (by omega), up_at]), rfl, (q4.Rk.trans (congrArg some (show hN h3 = hN h0 + 3 by omega))), (show hA h4 (hN h0 + 3) 14 k2 by have z := q4.2.2.1; rwa [show hN h3 = hN h0 + 3 by omega] at z), (by rw [up_at]), rfl, (((q4.R (y := 6) (by decide)).trans ((q3.R (y := 6) (by decide)).trans ((q2.R (y := 6) (by decide)).trans (q1.R (y := 6) (by decide))))).trans g.r6), (q4.a (q3.a (q2.a (q1.a g.a6)))), (by rw [up_lt (by omega), up_lt (by omega), up_lt (by omega), up_lt (by omega)]; exact g.v6), ((q4.L (by omega) (by omega)).trans ((q3.L (by omega) (by omega)).trans ((q2.L (by omega) (by omega)).trans ((q1.L (by omega) (by omega)).trans g.c6)))), (((q4.R (y := 7) (by decide)).trans ((q3.R (y := 7) (by decide)).trans ((q2.R (y := 7) (by decide)).trans (q1.R (y := 7) (by decide))))).trans g.r7), (q4.a (q3.a (q2.a (q1.a g.a7)))), (by rw [up_lt (by omega), up_lt (by omega), up_lt (by omega), up_lt (by omega)]; exact g.v7), ((q4.L (by omega) (by omega)).trans ((q3.L (by omega) (by omega)).trans ((q2.L (by omega) (by omega)).trans ((q1.L (by omega) (by omega)).trans g.c7)))), ((congrFun q4.2.2.2.2.1 8).trans ((congrFun q3.2.2.2.2.1 8).trans ((congrFun q2.2.2.2.2.1 8).trans ((congrFun q1.2.2.2.2.1 8).trans g.f8))))⟩
theorem zY.gr {ow : Nat → Nat} {h0 : mH} {n a3 a4 a5 : Nat} {yp : Int32} {yf : Int32} {yc : Int32} {y3 : Nat → Int64} {y4 : Nat → Int64} {y5 : Nat → Int32} {h1 h2 h3 : mH} {k2 : Nat} (g : zY ow h0 n a3 a4 a5 yp yf yc y3 y4 y5) (hz : hN h0 + 3 < scrA) (q1 : rlc h0 h1 117 3 15 k2) (q2 : rlc h1 h2 117 4 15 k2) (q3 : rlc h2 h3 117 5 14 k2) : cFr [10] (3 * (k2 + 8)) ow h0 (upN (upN (upN ow (hN h0) 10) (hN h0 + 1) 10) (hN h0 + 2) 10) h3 ∧ zY (upN (upN (upN ow (hN h0) 10) (hN h0 + 1) 10) (hN h0 + 2) 10) h3 k2 (hN h0) (hN h0 + 1) (hN h0 + 2) yp yf yc (hL h3 (hN h0)) (hL h3 (hN h0 + 1)) (hI h3 (hN h0 + 2)) := by
  have ne9 := g.ne
  have ga := g.o.1
  have la3 := g.a3.1
  have la4 := g.a4.1
  have la5 := g.a5.1
  have n1 : hN h1 = hN h0 + 1 := by have := q1.1; omega
  have n2 : hN h2 = hN h0 + 2 := by have := q2.1; omega
  have n3 : hN h3 = hN h0 + 3 := by have := q3.1; omega
  have f1 := q1.fr g.w (by omega)
  have f2 := q2.fr (ρ := 10) (ow := (upN ow (hN h0) 10)) (by rw [up_lt (by omega)]; exact g.w) (by omega)
  rw [n1] at f2
  have f3 := q3.fr (ρ := 10) (ow := (upN (upN ow (hN h0) 10) (hN h0 + 1) 10)) (by rw [up_lt (by omega), up_lt (by omega)]; exact g.w) (by omega)
  rw [n2] at f3
  exact ⟨((f1.tr f2).tr f3).up (fun _ h => h) (by omega), (q3.o (q2.o (q1.o g.o))), (by rw [up_lt (by omega), up_lt (by omega), up_lt (by omega)]; exact g.w), (by omega), ((congrFun q3.2.2.2.2.1 0).trans ((congrFun q2.2.2.2.2.1 0).trans ((congrFun q1.2.2.2.2.1 0).trans g.f0))), ((congrFun q3.2.2.2.2.1 1).trans ((congrFun q2.2.2.2.2.1 1).trans ((congrFun q1.2.2.2.2.1 1).trans g.f1))), ((congrFun q3.2.2.2.2.1 2).trans ((congrFun q2.2.2.2.2.1 2).trans ((congrFun q1.2.2.2.2.1 2).trans g.f2))), ((q3.R (y := 3) (by decide)).trans ((q2.R (y := 3) (by decide)).trans (q1.Rk.trans (congrArg some (show hN h0 = hN h0 by omega))))), (q3.a (q2.a (show hA h1 (hN h0) 15 k2 by have z := q1.2.2.1; rwa [show hN h0 = hN h0 by omega] at z))), (by rw [up_lt (by omega), up_lt (by omega), up_at]), rfl, ((q3.R (y := 4) (by decide)).trans (q2.Rk.trans (congrArg some (show hN h1 = hN h0 + 1 by omega)))), (q3.a (show hA h2 (hN h0 + 1) 15 k2 by have z := q2.2.2.1; rwa [show hN h1 = hN h0 + 1 by omega] at z)), (by rw [up_lt (by omega), up_at]), rfl, (q3.Rk.trans (congrArg some (show hN h2 = hN h0 + 2 by omega))), (show hA h3 (hN h0 + 2) 14 k2 by have z := q3.2.2.1; rwa [show hN h2 = hN h0 + 2 by omega] at z), (by rw [up_at]), rfl⟩
/-- a table whose pile holds k numbers -/
def tPl (ow : Nat → Nat) (h : mH) (a ρ k m n : Nat) (V : Nat → Nat) : Prop := ∃ a2 a3 a4 a5 a6 a7 tf tc t2 t3 t4 t5 t6 t7, zT ow h a ρ n m a2 a3 a4 a5 a6 a7 tf tc t2 t3 t4 t5 t6 t7 (nI k) ∧ (k ≤ m ∧ 64 ≤ m ∧ m ≤ 20480) ∧ (64 ≤ n ∧ n ≤ 20480) ∧ ∀ i, i < k → t6 i = lN (V i) ∧ V i < 2 ^ 46
theorem tPl.fr {S : List Nat} {u9 : Nat} {ow ow' : Nat → Nat} {h h' : mH} {a ρ k m n : Nat} {V : Nat → Nat} (g : tPl ow h a ρ k m n V) (f : cFr S u9 ow h ow' h') (h1 : ρ ∉ S) : tPl ow' h' a ρ k m n V := by
  obtain ⟨a2, a3, a4, a5, a6, a7, tf, tc, t2, t3, t4, t5, t6, t7, z, hz⟩ := g
  exact ⟨a2, a3, a4, a5, a6, a7, tf, tc, t2, t3, t4, t5, t6, t7, z.fr f h1, hz⟩
theorem tPl.oo {ow : Nat → Nat} {h : mH} {a ρ k m n : Nat} {V : Nat → Nat} (g : tPl ow h a ρ k m n V) : hO h a 9 := by
  obtain ⟨a2, a3, a4, a5, a6, a7, tf, tc, t2, t3, t4, t5, t6, t7, z, hz⟩ := g
  exact z.o
theorem pil_v {k b : Nat} (hk : k < 1099511627776) (hb : b < 64) : (lN k <<< ((nI 6).toInt64 &&& 63)) ||| (nI b).toInt64 = lN (k * 64 + b) := by
  rw [wb_shl k (by decide), nI_l (by omega), g_or (k := 6) (p := 64) rfl hb (by omega)]
theorem pow6 {p : Nat} (hp : p < 6) : 2 ^ p < 64 := Nat.pow_lt_pow_right (n := 6) (by decide) hp
theorem pil_lt {k p : Nat} (hk : k < 1099511627776) (hp : p < 6) : k * 64 + 2 ^ p < 2 ^ 46 := by
  have := pow6 hp
  omega
set_option maxRecDepth 20000 in
theorem pX9_pileUp {h : mH} {Q : Option Value → mH → Prop} {ow : Nat → Nat} {a ρ k m n : Nat} {V : Nat → Nat} {key p : Nat} (tp : tPl ow h a ρ k m n V) (hk : k < 10240) (hkey : key < 1099511627776) (hp : p < 6) (hrm : hU h + 8 * hN h + 5 * (20480 - m) ≤ 8000000) (hq : ∀ h' ow' m', cFr [ρ] (5 * (m' - m)) ow h ow' h' → m ≤ m' → tPl ow' h' a ρ (k + 1) m' n (upN V k (key * 64 + 2 ^ p)) → Q none h') : Wp mX9_pileUp 2 48 0 [some (.ref a), some (.long (lN key)), none, some (.int (nI (2 ^ p)))] [] h Q := by
  obtain ⟨a2, a3, a4, a5, a6, a7, tf, tc, t2, t3, t4, t5, t6, t7, zt, hm, hn, hV⟩ := tp
  have hscr : scrA = 1000000000 := rfl
  refine wp_aload_n dX9_pileUp_0 rfl rfl ?_
  refine wp_getIV dX9_pileUp_1 lX9_31 rfl zt.o zt.f8 ?_
  refine wp_aload_n dX9_pileUp_4 rfl rfl ?_
  refine wp_getR dX9_pileUp_5 lX9_25 rfl zt.o zt.r6 ?_
  refine wp_alen dX9_pileUp_8 zt.a6 (by decide) (by decide) rfl ?_
  refine wp_icmp_ltN dX9_pileUp_9 rfl rfl ⟨by omega, by omega⟩ (fun c2 => ?_) (fun c2 => ?_)
  · refine wp_aload_n dX9_pileUp_41 rfl rfl ?_
    refine wp_getR dX9_pileUp_42 lX9_25 rfl zt.o zt.r6 ?_
    refine wp_aload_n dX9_pileUp_45 rfl rfl ?_
    refine wp_getIV dX9_pileUp_46 lX9_31 rfl zt.o zt.f8 ?_
    refine wp_lload_n dX9_pileUp_49 rfl rfl ?_
    refine wp_bipush (v := (nI 6)) dX9_pileUp_50 (by decide +kernel) ?_
    refine wp_lshl dX9_pileUp_52 ?_
    refine wp_iload_n dX9_pileUp_53 rfl rfl ?_
    refine wp_i2l dX9_pileUp_54 ?_
    refine wp_lor dX9_pileUp_55 ?_
    rw [pil_v hkey (pow6 hp)]
    refine wp_lastN dX9_pileUp_56 zt.a6 rfl ⟨by omega, by omega⟩ ?_
    refine zt.w6 (fun hh1 f1 zt_1 => ?_)
    refine wp_aload_n dX9_pileUp_57 rfl rfl ?_
    refine wp_dup dX9_pileUp_58 rfl ?_
    refine wp_getIV dX9_pileUp_59 lX9_31 rfl zt_1.o zt_1.f8 ?_
    refine wp_iconst (v := (nI 1)) dX9_pileUp_62 (by decide +kernel) ?_
    refine wp_iadd dX9_pileUp_63 ?_
    refine wp_putIN dX9_pileUp_64 lX9_31 rfl rfl (Or.inl rfl) zt_1.o (isN_add rfl rfl) ?_
    refine zt_1.p8 (fun hh2 f2 zt_2 => ?_)
    refine wp_vreturn dX9_pileUp_67 rfl ?_
    refine hq _ _ m (((f1.up (fun x hx => by simp at hx ⊢; omega) (Nat.le_refl _)).tr (f2.up (fun x hx => by simp at hx ⊢; omega) (Nat.le_refl _))).up (fun _ h => h) (by omega)) (by omega) ⟨_, _, _, _, _, _, _, _, _, _, _, _, _, _, zt_2, by omega, hn, fun i hi => ?_⟩
    unfold upN up1
    by_cases z : i = k
    · rw [if_pos z, if_pos z]; exact ⟨rfl, pil_lt hkey hp⟩
    · rw [if_neg z, if_neg z]; exact hV i (by omega)
  · refine wp_aload_n dX9_pileUp_12 rfl rfl ?_
    refine wp_aload_n dX9_pileUp_13 rfl rfl ?_
    refine wp_getR dX9_pileUp_14 lX9_25 rfl zt.o zt.r6 ?_
    refine wp_iconst (v := (nI 2)) dX9_pileUp_17 (by decide +kernel) ?_
    refine wp_aload_n dX9_pileUp_18 rfl rfl ?_
    refine wp_getIV dX9_pileUp_19 lX9_31 rfl zt.o zt.f8 ?_
    refine wp_imul dX9_pileUp_22 ?_
    refine wp_cS2 1 26 [some _, some _, none] dX9_pileUp_23 tJ7_copyOf_c38d5 sJ7_copyOf_c38d5 lX9_114 ⟨by decide, by decide⟩ (Nat.le_of_ble_eq_true rfl) (Nat.le_of_ble_eq_true rfl) rfl ?_
    rw [pk_mul]
    refine pJ7_copyOf_c38d5 zt.a6 (by omega) (by omega) (fun h1 w1 c1 => ?_)
    intro _ _
    refine wp_putR (v := some _) dX9_pileUp_26 lX9_25 rfl (Or.inl rfl) (show hO h1 a 9 from ⟨by have := w1.1; have := zt.o.1; omega, by rw [(w1.2.2.2 a (Nat.ne_of_lt zt.o.1)).1]; exact zt.o.2⟩) ?_
    have r1 := rlc_of (k := 6) zt.o.1 (by omega) w1
    refine wp_aload_n dX9_pileUp_29 rfl rfl ?_
    refine wp_iconst (v := (nI 2)) dX9_pileUp_30 (by decide +kernel) ?_
    refine wp_aload_n dX9_pileUp_31 rfl rfl ?_
    refine wp_getIV dX9_pileUp_32 lX9_31 rfl (r1.o zt.o) ((congrFun r1.2.2.2.2.1 8).trans zt.f8) ?_
    refine wp_imul dX9_pileUp_35 ?_
    refine wp_newL (N := 2 * k) dX9_pileUp_36 wAc15 (by rw [pk_mul]; exact nI_pos (by omega)) (by rw [pk_mul]; exact nI_clamp (by omega)) (by omega) ?_
    refine wp_putR (v := some _) dX9_pileUp_38 lX9_28 rfl (Or.inl rfl) (hO_nw (r1.o zt.o)) ?_
    have r2 := rlc_of (k := 7) (r1.o zt.o).1 (by have := r1.1; omega) (nwC_nw (h := sR h1 a 6 (some (hN h))) (kd := 15) (n := 2 * k))
    have ek9 : k = m := by omega
    obtain ⟨f3, zt_3⟩ := zt.gr (by omega) r1 r2
    refine wp_aload_n dX9_pileUp_41 rfl rfl ?_
    refine wp_getR dX9_pileUp_42 lX9_25 rfl zt_3.o zt_3.r6 ?_
    refine wp_aload_n dX9_pileUp_45 rfl rfl ?_
    refine wp_getIV dX9_pileUp_46 lX9_31 rfl zt_3.o zt_3.f8 ?_
    refine wp_lload_n dX9_pileUp_49 rfl rfl ?_
    refine wp_bipush (v := (nI 6)) dX9_pileUp_50 (by decide +kernel) ?_
    refine wp_lshl dX9_pileUp_52 ?_
    refine wp_iload_n dX9_pileUp_53 rfl rfl ?_
    refine wp_i2l dX9_pileUp_54 ?_
    refine wp_lor dX9_pileUp_55 ?_
    rw [pil_v hkey (pow6 hp)]
    refine wp_lastN dX9_pileUp_56 zt_3.a6 rfl ⟨by omega, by omega⟩ ?_
    refine zt_3.w6 (fun hh4 f4 zt_4 => ?_)
    refine wp_aload_n dX9_pileUp_57 rfl rfl ?_
    refine wp_dup dX9_pileUp_58 rfl ?_
    refine wp_getIV dX9_pileUp_59 lX9_31 rfl zt_4.o zt_4.f8 ?_
    refine wp_iconst (v := (nI 1)) dX9_pileUp_62 (by decide +kernel) ?_
    refine wp_iadd dX9_pileUp_63 ?_
    refine wp_putIN dX9_pileUp_64 lX9_31 rfl rfl (Or.inl rfl) zt_4.o (isN_add rfl rfl) ?_
    refine zt_4.p8 (fun hh5 f5 zt_5 => ?_)
    refine wp_vreturn dX9_pileUp_67 rfl ?_
    refine hq _ _ (2 * k) ((((f3.up (fun x hx => by simp at hx ⊢; omega) (Nat.le_refl _)).tr (f4.up (fun x hx => by simp at hx ⊢; omega) (Nat.le_refl _))).tr (f5.up (fun x hx => by simp at hx ⊢; omega) (Nat.le_refl _))).up (fun _ h => h) (by omega)) (by omega) ⟨_, _, _, _, _, _, _, _, _, _, _, _, _, _, zt_5, by omega, hn, fun i hi => ?_⟩
    unfold upN up1
    by_cases z : i = k
    · rw [if_pos z, if_pos z]; exact ⟨rfl, pil_lt hkey hp⟩
    · rw [if_neg z, if_neg z]
      have h9 := hV i (by omega)
      refine ⟨?_, h9.2⟩
      rw [← h9.1]
      have l6 := zt.a6.1
      have e2 := r2.L (b := hN h) (by have := r1.1; omega) (Nat.ne_of_gt zt.o.1)
      have e1 : hL (sR h1 a 6 (some (hN h))) (hN h) = hL h1 (hN h) := rfl
      rw [e2, e1, c1 i (by omega)]
      exact congrFun zt.c6 i
