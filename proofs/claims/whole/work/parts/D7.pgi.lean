/-! ===== a page made ===== -/
def zQ0 (ow : Nat → Nat) (h : mH) (a ρ : Nat) (pc : Int32) (pu : Int32) : Prop := (hO h a 6) ∧ (ow a = ρ) ∧ (hI h a 0 = pc) ∧ (hI h a 4 = pu)
theorem zQ0.o {ow : Nat → Nat} {h : mH} {a ρ : Nat} {pc : Int32} {pu : Int32} (g : zQ0 ow h a ρ pc pu) : hO h a 6 := g.1
theorem zQ0.w {ow : Nat → Nat} {h : mH} {a ρ : Nat} {pc : Int32} {pu : Int32} (g : zQ0 ow h a ρ pc pu) : ow a = ρ := g.2.1
theorem zQ0.f0 {ow : Nat → Nat} {h : mH} {a ρ : Nat} {pc : Int32} {pu : Int32} (g : zQ0 ow h a ρ pc pu) : hI h a 0 = pc := g.2.2.1
theorem zQ0.f4 {ow : Nat → Nat} {h : mH} {a ρ : Nat} {pc : Int32} {pu : Int32} (g : zQ0 ow h a ρ pc pu) : hI h a 4 = pu := g.2.2.2
theorem zQ0.fr {ow : Nat → Nat} {h : mH} {a ρ : Nat} {pc : Int32} {pu : Int32} {S : List Nat} {u : Nat} {ow' : Nat → Nat} {h' : mH} (g : zQ0 ow h a ρ pc pu) (f : cFr S u ow h ow' h') (hs : ρ ∉ S) : zQ0 ow' h' a ρ pc pu := by
  have s0 := f.s g.o.1 g.w hs
  exact ⟨f.o g.o, (f.w g.o.1).trans g.w, (congrFun s0.1 0).trans g.f0, (congrFun s0.1 4).trans g.f4⟩
theorem zQ0.p0 {ow : Nat → Nat} {h : mH} {a ρ : Nat} {pc : Int32} {pu : Int32} {M : mM} {fr9 lo9 pc9 : Nat} {ls9 : List (Option Value)} {sk9 : List Value} {Q : Option Value → mH → Prop} {v9 : Int32} (g : zQ0 ow h a ρ pc pu) (K : ∀ h', cFr [ρ] 0 ow h ow h' → zQ0 ow h' a ρ v9 pu → Wp M fr9 lo9 pc9 ls9 sk9 h' Q) : Wp M fr9 lo9 pc9 ls9 sk9 (sI h a 0 v9) Q := by
  exact K _ (cFr_sI g.w) ⟨g.o, g.w, (by rw [hI_sI, if_pos ⟨rfl, rfl⟩]), (by rw [hI_sI, if_neg (by omega)]; exact g.f4)⟩
theorem zQ0.p4 {ow : Nat → Nat} {h : mH} {a ρ : Nat} {pc : Int32} {pu : Int32} {M : mM} {fr9 lo9 pc9 : Nat} {ls9 : List (Option Value)} {sk9 : List Value} {Q : Option Value → mH → Prop} {v9 : Int32} (g : zQ0 ow h a ρ pc pu) (K : ∀ h', cFr [ρ] 0 ow h ow h' → zQ0 ow h' a ρ pc v9 → Wp M fr9 lo9 pc9 ls9 sk9 h' Q) : Wp M fr9 lo9 pc9 ls9 sk9 (sI h a 4 v9) Q := by
  exact K _ (cFr_sI g.w) ⟨g.o, g.w, (by rw [hI_sI, if_neg (by omega)]; exact g.f0), (by rw [hI_sI, if_pos ⟨rfl, rfl⟩])⟩
def zQ1 (ow : Nat → Nat) (h : mH) (a ρ n : Nat) (pc : Int32) (pt : Nat → Int64) (pu : Int32) : Prop := (hO h a 6) ∧ (ow a = ρ) ∧ (hI h a 0 = pc) ∧ (hR h a 1 = some (a + 1)) ∧ (hA h (a + 1) 15 n) ∧ (ow (a + 1) = ρ) ∧ (hL h (a + 1) = pt) ∧ (hI h a 4 = pu)
theorem zQ1.o {ow : Nat → Nat} {h : mH} {a ρ n : Nat} {pc : Int32} {pt : Nat → Int64} {pu : Int32} (g : zQ1 ow h a ρ n pc pt pu) : hO h a 6 := g.1
theorem zQ1.w {ow : Nat → Nat} {h : mH} {a ρ n : Nat} {pc : Int32} {pt : Nat → Int64} {pu : Int32} (g : zQ1 ow h a ρ n pc pt pu) : ow a = ρ := g.2.1
theorem zQ1.f0 {ow : Nat → Nat} {h : mH} {a ρ n : Nat} {pc : Int32} {pt : Nat → Int64} {pu : Int32} (g : zQ1 ow h a ρ n pc pt pu) : hI h a 0 = pc := g.2.2.1
theorem zQ1.r1 {ow : Nat → Nat} {h : mH} {a ρ n : Nat} {pc : Int32} {pt : Nat → Int64} {pu : Int32} (g : zQ1 ow h a ρ n pc pt pu) : hR h a 1 = some (a + 1) := g.2.2.2.1
theorem zQ1.a1 {ow : Nat → Nat} {h : mH} {a ρ n : Nat} {pc : Int32} {pt : Nat → Int64} {pu : Int32} (g : zQ1 ow h a ρ n pc pt pu) : hA h (a + 1) 15 n := g.2.2.2.2.1
theorem zQ1.v1 {ow : Nat → Nat} {h : mH} {a ρ n : Nat} {pc : Int32} {pt : Nat → Int64} {pu : Int32} (g : zQ1 ow h a ρ n pc pt pu) : ow (a + 1) = ρ := g.2.2.2.2.2.1
theorem zQ1.c1 {ow : Nat → Nat} {h : mH} {a ρ n : Nat} {pc : Int32} {pt : Nat → Int64} {pu : Int32} (g : zQ1 ow h a ρ n pc pt pu) : hL h (a + 1) = pt := g.2.2.2.2.2.2.1
theorem zQ1.f4 {ow : Nat → Nat} {h : mH} {a ρ n : Nat} {pc : Int32} {pt : Nat → Int64} {pu : Int32} (g : zQ1 ow h a ρ n pc pt pu) : hI h a 4 = pu := g.2.2.2.2.2.2.2
theorem zQ1.fr {ow : Nat → Nat} {h : mH} {a ρ n : Nat} {pc : Int32} {pt : Nat → Int64} {pu : Int32} {S : List Nat} {u : Nat} {ow' : Nat → Nat} {h' : mH} (g : zQ1 ow h a ρ n pc pt pu) (f : cFr S u ow h ow' h') (hs : ρ ∉ S) : zQ1 ow' h' a ρ n pc pt pu := by
  have s0 := f.s g.o.1 g.w hs
  have s2 := f.s g.a1.1 g.v1 hs
  exact ⟨f.o g.o, (f.w g.o.1).trans g.w, (congrFun s0.1 0).trans g.f0, (congrFun s0.2.2 1).trans g.r1, f.a g.a1, (f.w g.a1.1).trans g.v1, s2.2.1.trans g.c1, (congrFun s0.1 4).trans g.f4⟩
theorem zQ1.p0 {ow : Nat → Nat} {h : mH} {a ρ n : Nat} {pc : Int32} {pt : Nat → Int64} {pu : Int32} {M : mM} {fr9 lo9 pc9 : Nat} {ls9 : List (Option Value)} {sk9 : List Value} {Q : Option Value → mH → Prop} {v9 : Int32} (g : zQ1 ow h a ρ n pc pt pu) (K : ∀ h', cFr [ρ] 0 ow h ow h' → zQ1 ow h' a ρ n v9 pt pu → Wp M fr9 lo9 pc9 ls9 sk9 h' Q) : Wp M fr9 lo9 pc9 ls9 sk9 (sI h a 0 v9) Q := by
  exact K _ (cFr_sI g.w) ⟨g.o, g.w, (by rw [hI_sI, if_pos ⟨rfl, rfl⟩]), g.r1, g.a1, g.v1, g.c1, (by rw [hI_sI, if_neg (by omega)]; exact g.f4)⟩
theorem zQ1.w1 {ow : Nat → Nat} {h : mH} {a ρ n : Nat} {pc : Int32} {pt : Nat → Int64} {pu : Int32} {M : mM} {fr9 lo9 pc9 : Nat} {ls9 : List (Option Value)} {sk9 : List Value} {Q : Option Value → mH → Prop} {j9 : Nat} {v9 : Int64} (g : zQ1 ow h a ρ n pc pt pu) (K : ∀ h', cFr [ρ] 0 ow h ow h' → zQ1 ow h' a ρ n pc (up1 pt j9 v9) pu → Wp M fr9 lo9 pc9 ls9 sk9 h' Q) : Wp M fr9 lo9 pc9 ls9 sk9 (sL h (a + 1) j9 v9) Q := by
  exact K _ (cFr_sL g.v1) ⟨g.o, g.w, g.f0, g.r1, g.a1, g.v1, (by rw [hL_up, g.c1]), g.f4⟩
theorem zQ1.p4 {ow : Nat → Nat} {h : mH} {a ρ n : Nat} {pc : Int32} {pt : Nat → Int64} {pu : Int32} {M : mM} {fr9 lo9 pc9 : Nat} {ls9 : List (Option Value)} {sk9 : List Value} {Q : Option Value → mH → Prop} {v9 : Int32} (g : zQ1 ow h a ρ n pc pt pu) (K : ∀ h', cFr [ρ] 0 ow h ow h' → zQ1 ow h' a ρ n pc pt v9 → Wp M fr9 lo9 pc9 ls9 sk9 h' Q) : Wp M fr9 lo9 pc9 ls9 sk9 (sI h a 4 v9) Q := by
  exact K _ (cFr_sI g.w) ⟨g.o, g.w, (by rw [hI_sI, if_neg (by omega)]; exact g.f0), g.r1, g.a1, g.v1, g.c1, (by rw [hI_sI, if_pos ⟨rfl, rfl⟩])⟩
def zQ2 (ow : Nat → Nat) (h : mH) (a ρ n : Nat) (pc : Int32) (pt : Nat → Int64) (pk : Nat → Int32) (pu : Int32) : Prop := (hO h a 6) ∧ (ow a = ρ) ∧ (hI h a 0 = pc) ∧ (hR h a 1 = some (a + 1)) ∧ (hA h (a + 1) 15 n) ∧ (ow (a + 1) = ρ) ∧ (hL h (a + 1) = pt) ∧ (hR h a 2 = some (a + 2)) ∧ (hA h (a + 2) 14 n) ∧ (ow (a + 2) = ρ) ∧ (hI h (a + 2) = pk) ∧ (hI h a 4 = pu)
theorem zQ2.o {ow : Nat → Nat} {h : mH} {a ρ n : Nat} {pc : Int32} {pt : Nat → Int64} {pk : Nat → Int32} {pu : Int32} (g : zQ2 ow h a ρ n pc pt pk pu) : hO h a 6 := g.1
theorem zQ2.w {ow : Nat → Nat} {h : mH} {a ρ n : Nat} {pc : Int32} {pt : Nat → Int64} {pk : Nat → Int32} {pu : Int32} (g : zQ2 ow h a ρ n pc pt pk pu) : ow a = ρ := g.2.1
theorem zQ2.f0 {ow : Nat → Nat} {h : mH} {a ρ n : Nat} {pc : Int32} {pt : Nat → Int64} {pk : Nat → Int32} {pu : Int32} (g : zQ2 ow h a ρ n pc pt pk pu) : hI h a 0 = pc := g.2.2.1
theorem zQ2.r1 {ow : Nat → Nat} {h : mH} {a ρ n : Nat} {pc : Int32} {pt : Nat → Int64} {pk : Nat → Int32} {pu : Int32} (g : zQ2 ow h a ρ n pc pt pk pu) : hR h a 1 = some (a + 1) := g.2.2.2.1
theorem zQ2.a1 {ow : Nat → Nat} {h : mH} {a ρ n : Nat} {pc : Int32} {pt : Nat → Int64} {pk : Nat → Int32} {pu : Int32} (g : zQ2 ow h a ρ n pc pt pk pu) : hA h (a + 1) 15 n := g.2.2.2.2.1
theorem zQ2.v1 {ow : Nat → Nat} {h : mH} {a ρ n : Nat} {pc : Int32} {pt : Nat → Int64} {pk : Nat → Int32} {pu : Int32} (g : zQ2 ow h a ρ n pc pt pk pu) : ow (a + 1) = ρ := g.2.2.2.2.2.1
theorem zQ2.c1 {ow : Nat → Nat} {h : mH} {a ρ n : Nat} {pc : Int32} {pt : Nat → Int64} {pk : Nat → Int32} {pu : Int32} (g : zQ2 ow h a ρ n pc pt pk pu) : hL h (a + 1) = pt := g.2.2.2.2.2.2.1
theorem zQ2.r2 {ow : Nat → Nat} {h : mH} {a ρ n : Nat} {pc : Int32} {pt : Nat → Int64} {pk : Nat → Int32} {pu : Int32} (g : zQ2 ow h a ρ n pc pt pk pu) : hR h a 2 = some (a + 2) := g.2.2.2.2.2.2.2.1
theorem zQ2.a2 {ow : Nat → Nat} {h : mH} {a ρ n : Nat} {pc : Int32} {pt : Nat → Int64} {pk : Nat → Int32} {pu : Int32} (g : zQ2 ow h a ρ n pc pt pk pu) : hA h (a + 2) 14 n := g.2.2.2.2.2.2.2.2.1
theorem zQ2.v2 {ow : Nat → Nat} {h : mH} {a ρ n : Nat} {pc : Int32} {pt : Nat → Int64} {pk : Nat → Int32} {pu : Int32} (g : zQ2 ow h a ρ n pc pt pk pu) : ow (a + 2) = ρ := g.2.2.2.2.2.2.2.2.2.1
theorem zQ2.c2 {ow : Nat → Nat} {h : mH} {a ρ n : Nat} {pc : Int32} {pt : Nat → Int64} {pk : Nat → Int32} {pu : Int32} (g : zQ2 ow h a ρ n pc pt pk pu) : hI h (a + 2) = pk := g.2.2.2.2.2.2.2.2.2.2.1
theorem zQ2.f4 {ow : Nat → Nat} {h : mH} {a ρ n : Nat} {pc : Int32} {pt : Nat → Int64} {pk : Nat → Int32} {pu : Int32} (g : zQ2 ow h a ρ n pc pt pk pu) : hI h a 4 = pu := g.2.2.2.2.2.2.2.2.2.2.2
theorem zQ2.fr {ow : Nat → Nat} {h : mH} {a ρ n : Nat} {pc : Int32} {pt : Nat → Int64} {pk : Nat → Int32} {pu : Int32} {S : List Nat} {u : Nat} {ow' : Nat → Nat} {h' : mH} (g : zQ2 ow h a ρ n pc pt pk pu) (f : cFr S u ow h ow' h') (hs : ρ ∉ S) : zQ2 ow' h' a ρ n pc pt pk pu := by
  have s0 := f.s g.o.1 g.w hs
  have s2 := f.s g.a1.1 g.v1 hs
  have s3 := f.s g.a2.1 g.v2 hs
  exact ⟨f.o g.o, (f.w g.o.1).trans g.w, (congrFun s0.1 0).trans g.f0, (congrFun s0.2.2 1).trans g.r1, f.a g.a1, (f.w g.a1.1).trans g.v1, s2.2.1.trans g.c1, (congrFun s0.2.2 2).trans g.r2, f.a g.a2, (f.w g.a2.1).trans g.v2, s3.1.trans g.c2, (congrFun s0.1 4).trans g.f4⟩
theorem zQ2.p0 {ow : Nat → Nat} {h : mH} {a ρ n : Nat} {pc : Int32} {pt : Nat → Int64} {pk : Nat → Int32} {pu : Int32} {M : mM} {fr9 lo9 pc9 : Nat} {ls9 : List (Option Value)} {sk9 : List Value} {Q : Option Value → mH → Prop} {v9 : Int32} (g : zQ2 ow h a ρ n pc pt pk pu) (K : ∀ h', cFr [ρ] 0 ow h ow h' → zQ2 ow h' a ρ n v9 pt pk pu → Wp M fr9 lo9 pc9 ls9 sk9 h' Q) : Wp M fr9 lo9 pc9 ls9 sk9 (sI h a 0 v9) Q := by
  exact K _ (cFr_sI g.w) ⟨g.o, g.w, (by rw [hI_sI, if_pos ⟨rfl, rfl⟩]), g.r1, g.a1, g.v1, g.c1, g.r2, g.a2, g.v2, (funext fun y9 => by rw [hI_sI, if_neg (by omega)]; exact congrFun g.c2 y9), (by rw [hI_sI, if_neg (by omega)]; exact g.f4)⟩
theorem zQ2.w1 {ow : Nat → Nat} {h : mH} {a ρ n : Nat} {pc : Int32} {pt : Nat → Int64} {pk : Nat → Int32} {pu : Int32} {M : mM} {fr9 lo9 pc9 : Nat} {ls9 : List (Option Value)} {sk9 : List Value} {Q : Option Value → mH → Prop} {j9 : Nat} {v9 : Int64} (g : zQ2 ow h a ρ n pc pt pk pu) (K : ∀ h', cFr [ρ] 0 ow h ow h' → zQ2 ow h' a ρ n pc (up1 pt j9 v9) pk pu → Wp M fr9 lo9 pc9 ls9 sk9 h' Q) : Wp M fr9 lo9 pc9 ls9 sk9 (sL h (a + 1) j9 v9) Q := by
  exact K _ (cFr_sL g.v1) ⟨g.o, g.w, g.f0, g.r1, g.a1, g.v1, (by rw [hL_up, g.c1]), g.r2, g.a2, g.v2, g.c2, g.f4⟩
theorem zQ2.w2 {ow : Nat → Nat} {h : mH} {a ρ n : Nat} {pc : Int32} {pt : Nat → Int64} {pk : Nat → Int32} {pu : Int32} {M : mM} {fr9 lo9 pc9 : Nat} {ls9 : List (Option Value)} {sk9 : List Value} {Q : Option Value → mH → Prop} {j9 : Nat} {v9 : Int32} (g : zQ2 ow h a ρ n pc pt pk pu) (K : ∀ h', cFr [ρ] 0 ow h ow h' → zQ2 ow h' a ρ n pc pt (upI pk j9 v9) pu → Wp M fr9 lo9 pc9 ls9 sk9 h' Q) : Wp M fr9 lo9 pc9 ls9 sk9 (sI h (a + 2) j9 v9) Q := by
  exact K _ (cFr_sI g.v2) ⟨g.o, g.w, (by rw [hI_sI, if_neg (by omega)]; exact g.f0), g.r1, g.a1, g.v1, g.c1, g.r2, g.a2, g.v2, (by rw [hI_up, g.c2]), (by rw [hI_sI, if_neg (by omega)]; exact g.f4)⟩
theorem zQ2.p4 {ow : Nat → Nat} {h : mH} {a ρ n : Nat} {pc : Int32} {pt : Nat → Int64} {pk : Nat → Int32} {pu : Int32} {M : mM} {fr9 lo9 pc9 : Nat} {ls9 : List (Option Value)} {sk9 : List Value} {Q : Option Value → mH → Prop} {v9 : Int32} (g : zQ2 ow h a ρ n pc pt pk pu) (K : ∀ h', cFr [ρ] 0 ow h ow h' → zQ2 ow h' a ρ n pc pt pk v9 → Wp M fr9 lo9 pc9 ls9 sk9 h' Q) : Wp M fr9 lo9 pc9 ls9 sk9 (sI h a 4 v9) Q := by
  exact K _ (cFr_sI g.w) ⟨g.o, g.w, (by rw [hI_sI, if_neg (by omega)]; exact g.f0), g.r1, g.a1, g.v1, g.c1, g.r2, g.a2, g.v2, (funext fun y9 => by rw [hI_sI, if_neg (by omega)]; exact congrFun g.c2 y9), (by rw [hI_sI, if_pos ⟨rfl, rfl⟩])⟩

theorem zQ0.n1 {ow : Nat → Nat} {h h' : mH} {a ρ n : Nat} {pc pu : Int32} (g : zQ0 ow h a ρ pc pu) (hz : hN h < scrA) (ha : hN h = a + 1) (q : rlc h h' a 1 15 n) : cFr [ρ] (n + 8) ow h (upN ow (a + 1) ρ) h' ∧ zQ1 (upN ow (a + 1) ρ) h' a ρ n pc (hL h' (a + 1)) pu := by
  have f1 := q.fr (ρ := ρ) g.w hz
  rw [ha] at f1
  refine ⟨f1, q.o g.o, (upN_ne (by omega)).trans g.w, ?_, by rw [q.Rk, ha], by rw [← ha]; exact q.2.2.1, upN_at _ _ _, rfl, ?_⟩
  · rw [q.2.2.2.2.1]; exact g.f0
  · rw [q.2.2.2.2.1]; exact g.f4
theorem zQ1.n2 {ow : Nat → Nat} {h h' : mH} {a ρ n : Nat} {pc pu : Int32} {pt : Nat → Int64} (g : zQ1 ow h a ρ n pc pt pu) (hz : hN h < scrA) (ha : hN h = a + 2) (q : rlc h h' a 2 14 n) : cFr [ρ] (n + 8) ow h (upN ow (a + 2) ρ) h' ∧ zQ2 (upN ow (a + 2) ρ) h' a ρ n pc pt (hI h' (a + 2)) pu := by
  have f1 := q.fr (ρ := ρ) g.w hz
  rw [ha] at f1
  refine ⟨f1, q.o g.o, (upN_ne (by omega)).trans g.w, ?_, by rw [q.R (by decide)]; exact g.r1, q.a g.a1, (upN_ne (by omega)).trans g.v1, by rw [q.L (by omega) (by omega)]; exact g.c1, by rw [q.Rk, ha], by rw [← ha]; exact q.2.2.1, upN_at _ _ _, rfl, ?_⟩
  · rw [q.2.2.2.2.1]; exact g.f0
  · rw [q.2.2.2.2.1]; exact g.f4
theorem zQ2.n3 {ow : Nat → Nat} {h h' : mH} {a ρ n : Nat} {pc pu : Int32} {pt : Nat → Int64} {pk : Nat → Int32} (g : zQ2 ow h a ρ n pc pt pk pu) (hz : hN h < scrA) (ha : hN h = a + 3) (q : rlc h h' a 3 14 n) : cFr [ρ] (n + 8) ow h (upN ow (a + 3) ρ) h' ∧ zP (upN ow (a + 3) ρ) h' a ρ n pc pt pk (hI h' (a + 3)) pu := by
  have f1 := q.fr (ρ := ρ) g.w hz
  rw [ha] at f1
  refine ⟨f1, q.o g.o, (upN_ne (by omega)).trans g.w, ?_, by rw [q.R (by decide)]; exact g.r1, q.a g.a1, (upN_ne (by omega)).trans g.v1, by rw [q.L (by omega) (by omega)]; exact g.c1, by rw [q.R (by decide)]; exact g.r2, q.a g.a2, (upN_ne (by omega)).trans g.v2, by rw [q.I (by omega) (by omega)]; exact g.c2, by rw [q.Rk, ha], by rw [← ha]; exact q.2.2.1, upN_at _ _ _, rfl, ?_⟩
  · rw [q.2.2.2.2.1]; exact g.f0
  · rw [q.2.2.2.2.1]; exact g.f4
section
variable {r : Nat → Int64} {P i : Nat}
/-- the tokens up to a place of a page -/
def tkI (r : Nat → Int64) (P i : Nat) : List Int64 := tk r P ++ pg r P i
theorem tkI_0 : tkI r P 0 = tk r P := List.append_nil _
theorem tkI_s : tkI r P (i + 1) = tkI r P i ++ [rW r P i] := by
  unfold tkI pg
  rw [List.range_succ, List.map_append, List.append_assoc]
  rfl
theorem tkI_n : tkI r P (rT r P) = tk r (P + 1) := rfl
theorem tkI_app (k : Nat) : ∀ d, ∃ t, tkI r P (k + d) = tkI r P k ++ t
  | 0 => ⟨[], (List.append_nil _).symm⟩
  | d + 1 => by
    obtain ⟨t, e⟩ := tkI_app k d
    exact ⟨t ++ [rW r P (k + d)], by rw [show k + (d + 1) = k + d + 1 from rfl, tkI_s, e, List.append_assoc]⟩
theorem idx_I {w : Int64} (hi : i ≤ rT r P) (hw : w ∈ tkI r P i) : (uq (tk r (P + 1))).idxOf w = (uq (tkI r P i)).idxOf w := by
  obtain ⟨t, e⟩ := tkI_app (r := r) (P := P) i (rT r P - i)
  rw [show i + (rT r P - i) = rT r P by omega, tkI_n] at e
  obtain ⟨t', e'⟩ := uq_app (tkI r P i) t
  rw [e, e']
  exact idxOf_left ((mem_uq _ _ rfl _).mpr hw)
theorem uq_in {w : Int64} {l : List Int64} (h : w ∈ l) : uq (l ++ [w]) = uq l := by
  rw [uq_snoc, if_pos ((mem_uq _ _ rfl _).mpr h)]
theorem uq_out {w : Int64} {l : List Int64} (h : w ∉ l) : uq (l ++ [w]) = uq l ++ [w] := by
  rw [uq_snoc, if_neg (fun z => h ((mem_uq _ _ rfl _).mp z))]
theorem idx_old (hi : i < rT r P) (h : rW r P i ∈ tkI r P i) : uq (tkI r P (i + 1)) = uq (tkI r P i) := by rw [tkI_s, uq_in h]
theorem idx_neo (hi : i < rT r P) (h : rW r P i ∉ tkI r P i) : (uq (tkI r P (i + 1))).length = (uq (tkI r P i)).length + 1 ∧ (uq (tk r (P + 1))).idxOf (rW r P i) = (uq (tkI r P i)).length := by
  have e : uq (tkI r P (i + 1)) = uq (tkI r P i) ++ [rW r P i] := by rw [tkI_s, uq_out h]
  refine ⟨by rw [e, List.length_append]; rfl, ?_⟩
  rw [idx_I (i := i + 1) (by omega) (by rw [tkI_s]; exact List.mem_append.mpr (Or.inr (List.mem_singleton.mpr rfl))), e]
  have hn : rW r P i ∉ uq (tkI r P i) := fun z => h ((mem_uq _ _ rfl _).mp z)
  rw [List.idxOf_append, if_neg hn]
  simp
theorem tkQ_len : ∀ Q, (∀ p, p < Q → rT r p ≤ 40) → (tk r Q).length ≤ 40 * Q
  | 0, _ => Nat.le_refl _
  | Q + 1, h => by
    have := tkQ_len Q (fun p hp => h p (by omega))
    have := h Q (by omega)
    rw [tk_s, List.length_append]
    unfold pg
    rw [List.length_map, List.length_range]
    omega
theorem uI_len (hP : P < 6) (hT : ∀ p, p ≤ P → rT r p ≤ 40) (hi : i ≤ rT r P) : (uq (tkI r P i)).length ≤ 240 := by
  have h1 := uq_len (tkI r P i)
  have h2 := tkQ_len (r := r) P (fun p hp => hT p (by omega))
  have h3 := hT P (Nat.le_refl _)
  unfold tkI at h1 ⊢
  rw [List.length_append] at h1
  have : (pg r P i).length = i := by unfold pg; rw [List.length_map, List.length_range]
  omega
theorem uT_len (hP : P < 6) (hT : ∀ p, p ≤ P → rT r p ≤ 40) (w : Int64) : (uq (tk r (P + 1))).idxOf w ≤ 240 := by
  have h1 := uI_len hP hT (Nat.le_refl (rT r P))
  rw [tkI_n] at h1
  exact Nat.le_trans List.idxOf_le_length h1
theorem mem_I {k : Nat} (hk : k < i) : rW r P k ∈ tkI r P i := List.mem_append.mpr (Or.inr (mem_pg.mpr ⟨k, hk, rfl⟩))
theorem not_I {w : Int64} (h1 : w ∉ tk r P) (h2 : ∀ k, k < i → rW r P k ≠ w) : w ∉ tkI r P i := fun z => by
  rcases List.mem_append.mp z with z | z
  · exact h1 z
  · obtain ⟨k, hk, e⟩ := mem_pg.mp z
    exact h2 k hk e
end
abbrev ixP (r : Nat → Int64) (P i : Nat) : Nat := (uq (tk r (P + 1))).idxOf (rW r P i)
def pgN (ow : Nat → Nat) (h : mH) (q ρ : Nat) (r : Nat → Int64) (p : Nat) : Prop := ∃ pt pk pn, zP ow h q ρ (rT r p) (nI (rT r p)) pt pk pn (nI (uq (tk r (p + 1))).length) ∧ ∀ i, i < rT r p → pt i = rW r p i ∧ pk i = nI (kd (rW r p i)) ∧ pn i = nI ((uq (tk r (p + 1))).idxOf (rW r p i))
set_option maxRecDepth 20000 in
theorem pgi_in {h : mH} {Q : Option Value → mH → Prop} {ow : Nat → Nat} {q ra b P : Nat} {r : Nat → Int64} {i sn : Nat} {l5 : Option Value} {pt : Nat → Int64} {pk pn : Nat → Int32} (hP : P < 6) (hT : ∀ p, p ≤ P → rT r p ≤ 40) (zp : zP ow h q 18 (rT r P) (nI (rT r P)) pt pk pn (nI 0)) (hi : i < (rT r P)) (ht : ∀ k, k < (rT r P) → pt k = rW r P k) (hn : ∀ k, k < i → pn k = nI (ixP r P k)) (Ka : ∀ m j', m = ixP r P i → rW r P i ∈ tkI r P i → Wp mX6_init 2 48 187 [some (.ref q), some (.ref ra), some (.int (nI (rT r P))), some (.ref b), some (.int (nI P)), l5, some (.int (nI sn)), some (.int (nI i)), some (.int (nI m)), some (.int (nI j'))] [] h Q) (Kb : (∀ k, k < i → rW r P k ≠ rW r P i) → Wp mX6_init 2 48 187 [some (.ref q), some (.ref ra), some (.int (nI (rT r P))), some (.ref b), some (.int (nI P)), l5, some (.int (nI sn)), some (.int (nI i)), some (.int (-1)), some (.int (nI i))] [] h Q) : Wp mX6_init 2 48 137 [some (.ref q), some (.ref ra), some (.int (nI (rT r P))), some (.ref b), some (.int (nI P)), l5, some (.int (nI sn)), some (.int (nI i)), some (.int (-1)), some (.int (nI 0))] [] h Q := by
  have hTP := hT P (Nat.le_refl _)
  have hin : ∀  (t9 : Nat) (j : Nat), (j ≤ i) → (∀ k, k < j → rW r P k ≠ rW r P i) → (i < j + t9) → Wp mX6_init 2 48 137 [some (.ref q), some (.ref ra), some (.int (nI (rT r P))), some (.ref b), some (.int (nI P)), l5, some (.int (nI sn)), some (.int (nI i)), some (.int (-1)), some (.int (nI j))] [] h Q := by
    intro t9
    induction t9 with
    | zero => intros; omega
    | succ t9 ih =>
      intro j hj hj9 hmz
      refine wp_iload dX6_init_137 rfl ?_
      refine wp_iload dX6_init_139 rfl ?_
      refine wp_icmp_geN dX6_init_141 rfl rfl ⟨by omega, by omega⟩ (fun c2 => ?_) (fun c2 => ?_)
      · have ej9 : j = i := by omega
        subst ej9
        exact Kb hj9
      · refine wp_iload dX6_init_144 rfl ?_
        refine wp_iconst (v := (-1)) dX6_init_146 (by decide +kernel) ?_
        refine wp_icmp_ne dX6_init_147 (fun q => absurd rfl q) (fun _ => ?_)
        refine wp_aload_n dX6_init_150 rfl rfl ?_
        refine wp_getR dX6_init_151 lX6_30 rfl zp.o zp.r1 ?_
        refine wp_iload dX6_init_154 rfl ?_
        refine wp_laldV dX6_init_156 zp.a1 rfl ⟨by omega, by omega⟩ ((congrFun zp.c1 _).trans (ht _ (by omega))) ?_
        refine wp_aload_n dX6_init_157 rfl rfl ?_
        refine wp_getR dX6_init_158 lX6_30 rfl zp.o zp.r1 ?_
        refine wp_iload dX6_init_161 rfl ?_
        refine wp_laldV dX6_init_163 zp.a1 rfl ⟨by omega, by omega⟩ ((congrFun zp.c1 _).trans (ht _ (by omega))) ?_
        refine wp_lc_ne dX6_init_164 dX6_init_165 (fun c4 => ?_) (fun c4 => ?_)
        · refine wp_iconst (v := (-1)) dX6_init_178 (by decide +kernel) ?_
          refine wp_istore (ls1 := [_, _, _, _, _, _, _, _, some _, _]) dX6_init_179 (by decide) rfl ?_
          refine wp_iinc1 (ls1 := [_, _, _, _, _, _, _, _, _, some _]) dX6_init_181 rfl (by decide) rfl ?_
          refine wp_goto dX6_init_184 ?_
          exact ih (j + 1) (by omega) (fun k hk => by
            by_cases e9 : k = j
            · subst e9; assumption
            · exact hj9 k (by omega)) (by omega)
        · refine wp_aload_n dX6_init_168 rfl rfl ?_
          refine wp_getR dX6_init_169 lX6_38 rfl zp.o zp.r3 ?_
          refine wp_iload dX6_init_172 rfl ?_
          refine wp_ialdV dX6_init_174 zp.a3 rfl ⟨by omega, by omega⟩ ((congrFun zp.c3 _).trans (hn _ (by omega))) ?_
          refine wp_goto dX6_init_175 ?_
          refine wp_istore (ls1 := [_, _, _, _, _, _, _, _, some _, _]) dX6_init_179 (by decide) rfl ?_
          refine wp_iinc1 (ls1 := [_, _, _, _, _, _, _, _, _, some _]) dX6_init_181 rfl (by decide) rfl ?_
          refine wp_goto dX6_init_184 ?_
          refine wp_iload dX6_init_137 rfl ?_
          refine wp_iload dX6_init_139 rfl ?_
          refine wp_icmp_geN dX6_init_141 rfl rfl ⟨by omega, by omega⟩ (fun c6 => ?_) (fun c6 => ?_)
          · exact Ka _ _ (show ixP r P j = ixP r P i by unfold ixP; rw [(by assumption : rW r P j = rW r P i)]) (by rw [← (by assumption : rW r P j = rW r P i)]; exact mem_I (by omega))
          · refine wp_iload dX6_init_144 rfl ?_
            refine wp_iconst (v := (-1)) dX6_init_146 (by decide +kernel) ?_
            refine wp_icmp_ne dX6_init_147 (fun _ => ?_) (fun q => absurd q (nI_ne_m1 (by have : ixP r P j ≤ 240 := uT_len hP hT (rW r P j); omega)))
            exact Ka _ _ (show ixP r P j = ixP r P i by unfold ixP; rw [(by assumption : rW r P j = rW r P i)]) (by rw [← (by assumption : rW r P j = rW r P i)]; exact mem_I (by omega))
  exact hin (i + 1) 0 (Nat.zero_le _) (fun k hk => absurd hk (Nat.not_lt_zero k)) (by omega)
set_option maxRecDepth 20000 in
theorem pgi_main {h : mH} {Q : Option Value → mH → Prop} {ow : Nat → Nat} {q ra b P : Nat} {r : Nat → Int64} {l5 : Option Value} {pt : Nat → Int64} {pk pn : Nat → Int32} (hl5 : mclr1 l5 = l5) (hP : P < 6) (hT : ∀ p, p ≤ P → rT r p ≤ 40) (zp : zP ow h q 18 (rT r P) (nI (rT r P)) pt pk pn (nI 0)) (ha : hA h b 19 6) (hpg : ∀ h1, cFr [18] 0 ow h ow h1 → ∀ p, p < P → ∃ q, hR h1 b p = some q ∧ pgR ow h1 q r p) (hg : ∀ k, k < (rT r P) → goodW (rW r P k)) (ht : ∀ k, k < (rT r P) → pt k = rW r P k) (hq : ∀ h', cFr [18] 0 ow h ow h' → pgN ow h' q 18 r P → Q none h') : Wp mX6_init 2 48 93 [some (.ref q), some (.ref ra), some (.int (nI (rT r P))), some (.ref b), some (.int (nI P)), l5, some (.int (nI (uq (tk r P)).length)), some (.int (nI 0)), none, none] [] h Q := by
  have hTP := hT P (Nat.le_refl _)
  have hlp : ∀  (t9 : Nat) (i : Nat) (l8 : Option Value) (l9 : Option Value) (pk1 : Nat → Int32) (pn1 : Nat → Int32) (h1 : mH), (i ≤ (rT r P)) → (cFr [18] 0 ow h ow h1) → (zP ow h1 q 18 (rT r P) (nI (rT r P)) pt pk1 pn1 (nI 0)) → (∀ k, k < i → pk1 k = nI (kd (rW r P k))) → (∀ k, k < i → pn1 k = nI (ixP r P k)) → ((rT r P) < i + t9) → Wp mX6_init 2 48 93 [some (.ref q), some (.ref ra), some (.int (nI (rT r P))), some (.ref b), some (.int (nI P)), l5, some (.int (nI (uq (tkI r P i)).length)), some (.int (nI i)), l8, l9] [] h1 Q := by
    intro t9
    induction t9 with
    | zero => intros; omega
    | succ t9 ih =>
      intro i l8 l9 pk1 pn1 h1 hi hf1 zp1 hk1 hn1 hmz
      have hu9 : ixP r P i ≤ 240 := uT_len hP hT (rW r P i)
      have hs9 := uI_len (i := i) hP hT hi
      refine wp_iload dX6_init_93 rfl ?_
      refine wp_aload_n dX6_init_95 rfl rfl ?_
      refine wp_getIV dX6_init_96 lX6_18 rfl zp1.o zp1.f0 ?_
      refine wp_icmp_geN dX6_init_99 rfl rfl ⟨by omega, by omega⟩ (fun c2 => ?_) (fun c2 => ?_)
      · refine wp_aload_n dX6_init_215 rfl rfl ?_
        refine wp_iload dX6_init_216 rfl ?_
        refine wp_putI dX6_init_218 lX6_41 rfl (Or.inr ⟨rfl, rfl, rfl⟩) zp1.o rfl rfl ?_
        refine zp1.p4 (fun hh1 f1 zp1_1 => ?_)
        refine wp_vreturn dX6_init_221 rfl ?_
        have ei9 : i = (rT r P) := by omega
        subst ei9
        exact hq _ (hf1.tr f1) ⟨pt, pk1, pn1, zp1_1, fun k hk => ⟨ht k hk, hk1 k hk, hn1 k hk⟩⟩
      · refine wp_aload_n dX6_init_102 rfl rfl ?_
        refine wp_getR dX6_init_103 lX6_34 rfl zp1.o zp1.r2 ?_
        refine wp_iload dX6_init_106 rfl ?_
        refine wp_aload_n dX6_init_108 rfl rfl ?_
        refine wp_getR dX6_init_109 lX6_30 rfl zp1.o zp1.r1 ?_
        refine wp_iload dX6_init_112 rfl ?_
        refine wp_laldV dX6_init_114 zp1.a1 rfl ⟨by omega, by omega⟩ ((congrFun zp1.c1 _).trans (ht _ (by omega))) ?_
        refine wp_cSN1 1 20 [some _, none, none] dX6_init_115 tX11_kindOf sX11_kindOf lX6_44 ⟨by decide, by decide⟩ (Nat.le_of_ble_eq_true rfl) (Nat.le_of_ble_eq_true rfl) rfl ?_
        refine pX11_kindOf ?_
        intro _ _
        rw [← (hg i (by omega)).2]
        refine wp_iastN dX6_init_118 zp1.a2 rfl ⟨by omega, by omega⟩ ?_
        refine zp1.w2 (fun hh2 f2 zp1_2 => ?_)
        refine wp_aload_n dX6_init_119 rfl rfl ?_
        refine wp_iload dX6_init_120 rfl ?_
        refine wp_aload_n dX6_init_122 rfl rfl ?_
        refine wp_getR dX6_init_123 lX6_30 rfl zp1_2.o zp1_2.r1 ?_
        refine wp_iload dX6_init_126 rfl ?_
        refine wp_laldV dX6_init_128 zp1_2.a1 rfl ⟨by omega, by omega⟩ ((congrFun zp1_2.c1 _).trans (ht _ (by omega))) ?_
        refine wp_cS3 0 0 [some _, some _, some _, none, none, none, none, none] dX6_init_129 tX6_numberIn sX6_numberIn lX6_48 ⟨by decide, by decide⟩ (Nat.le_of_ble_eq_true rfl) (Nat.le_of_ble_eq_true rfl) rfl ?_
        refine pX6_numberIn ((hf1.tr f2).a ha) (by omega) (fun p hp9 => hT p (by omega)) (hpg _ (hf1.tr f2)) (fun mm9 => ?_) (fun mm9 => ?_)
        · intro _ _
          have hm9 : rW r P i ∈ tkI r P i := List.mem_append.mpr (Or.inl mm9)
          rw [show (uq (tk r P)).idxOf (rW r P i) = ixP r P i from (by rw [← tkI_0]; exact (idx_I (i := 0) (Nat.zero_le _) (by rw [tkI_0]; exact mm9)).symm)]
          refine wp_istore (ls1 := [_, _, _, _, _, _, _, _, some _, _]) dX6_init_132 (by decide) rfl ?_
          refine wp_iconst (v := (nI 0)) dX6_init_134 (by decide +kernel) ?_
          refine wp_istore (ls1 := [_, _, _, _, _, _, _, _, _, some _]) dX6_init_135 (by decide) rfl ?_
          refine wp_iload dX6_init_137 rfl ?_
          refine wp_iload dX6_init_139 rfl ?_
          refine wp_icmp_geN dX6_init_141 rfl rfl ⟨by omega, by omega⟩ (fun c4 => ?_) (fun c4 => ?_)
          · refine wp_iload dX6_init_187 rfl ?_
            refine wp_iconst (v := (-1)) dX6_init_189 (by decide +kernel) ?_
            refine wp_icmp_ne dX6_init_190 (fun _ => ?_) (fun q => absurd q (nI_ne_m1 (by omega)))
            refine wp_aload_n dX6_init_200 rfl rfl ?_
            refine wp_getR dX6_init_201 lX6_38 rfl zp1_2.o zp1_2.r3 ?_
            refine wp_iload dX6_init_204 rfl ?_
            refine wp_iload dX6_init_206 rfl ?_
            refine wp_iastN dX6_init_208 zp1_2.a3 rfl ⟨by omega, by omega⟩ ?_
            refine zp1_2.w3 (fun hh4 f4 zp1_4 => ?_)
            refine wp_iinc1 (ls1 := [_, _, _, _, _, _, _, some _, _, _]) dX6_init_209 rfl (by decide) rfl ?_
            refine wp_goto dX6_init_212 ?_
            rw [← idx_old (by omega) hm9]
            exact ih (i + 1) _ _ _ _ _ (by omega) ((hf1.tr f2).tr f4) zp1_4 (fun k hk => by
              by_cases e9 : k = i
              · subst e9; exact upI_at _ _ _
              · rw [upI_ne e9]; exact hk1 k (by omega)) (fun k hk => by
              by_cases e9 : k = i
              · subst e9; exact (upI_at _ _ _).trans rfl
              · rw [upI_ne e9]; exact hn1 k (by omega)) (by omega)
          · refine wp_iload dX6_init_144 rfl ?_
            refine wp_iconst (v := (-1)) dX6_init_146 (by decide +kernel) ?_
            refine wp_icmp_ne dX6_init_147 (fun _ => ?_) (fun q => absurd q (nI_ne_m1 (by omega)))
            refine wp_iload dX6_init_187 rfl ?_
            refine wp_iconst (v := (-1)) dX6_init_189 (by decide +kernel) ?_
            refine wp_icmp_ne dX6_init_190 (fun _ => ?_) (fun q => absurd q (nI_ne_m1 (by omega)))
            refine wp_aload_n dX6_init_200 rfl rfl ?_
            refine wp_getR dX6_init_201 lX6_38 rfl zp1_2.o zp1_2.r3 ?_
            refine wp_iload dX6_init_204 rfl ?_
            refine wp_iload dX6_init_206 rfl ?_
            refine wp_iastN dX6_init_208 zp1_2.a3 rfl ⟨by omega, by omega⟩ ?_
            refine zp1_2.w3 (fun hh5 f5 zp1_5 => ?_)
            refine wp_iinc1 (ls1 := [_, _, _, _, _, _, _, some _, _, _]) dX6_init_209 rfl (by decide) rfl ?_
            refine wp_goto dX6_init_212 ?_
            rw [← idx_old (by omega) hm9]
            exact ih (i + 1) _ _ _ _ _ (by omega) ((hf1.tr f2).tr f5) zp1_5 (fun k hk => by
              by_cases e9 : k = i
              · subst e9; exact upI_at _ _ _
              · rw [upI_ne e9]; exact hk1 k (by omega)) (fun k hk => by
              by_cases e9 : k = i
              · subst e9; exact (upI_at _ _ _).trans rfl
              · rw [upI_ne e9]; exact hn1 k (by omega)) (by omega)
        · intro _ _
          refine wp_istore (ls1 := [_, _, _, _, _, _, _, _, some _, _]) dX6_init_132 (by decide) rfl ?_
          refine wp_iconst (v := (nI 0)) dX6_init_134 (by decide +kernel) ?_
          refine wp_istore (ls1 := [_, _, _, _, _, _, _, _, _, some _]) dX6_init_135 (by decide) rfl ?_
          refine pgi_in hP hT zp1_2 (by omega) ht hn1 (fun m9 j9 em9 hm9 => ?_) (fun hb9 => ?_)
          · subst em9
            refine wp_iload dX6_init_187 rfl ?_
            refine wp_iconst (v := (-1)) dX6_init_189 (by decide +kernel) ?_
            refine wp_icmp_ne dX6_init_190 (fun _ => ?_) (fun q => absurd q (nI_ne_m1 (by omega)))
            refine wp_aload_n dX6_init_200 rfl rfl ?_
            refine wp_getR dX6_init_201 lX6_38 rfl zp1_2.o zp1_2.r3 ?_
            refine wp_iload dX6_init_204 rfl ?_
            refine wp_iload dX6_init_206 rfl ?_
            refine wp_iastN dX6_init_208 zp1_2.a3 rfl ⟨by omega, by omega⟩ ?_
            refine zp1_2.w3 (fun hh6 f6 zp1_6 => ?_)
            refine wp_iinc1 (ls1 := [_, _, _, _, _, _, _, some _, _, _]) dX6_init_209 rfl (by decide) rfl ?_
            refine wp_goto dX6_init_212 ?_
            rw [← idx_old (by omega) hm9]
            exact ih (i + 1) _ _ _ _ _ (by omega) ((hf1.tr f2).tr f6) zp1_6 (fun k hk => by
              by_cases e9 : k = i
              · subst e9; exact upI_at _ _ _
              · rw [upI_ne e9]; exact hk1 k (by omega)) (fun k hk => by
              by_cases e9 : k = i
              · subst e9; exact (upI_at _ _ _).trans rfl
              · rw [upI_ne e9]; exact hn1 k (by omega)) (by omega)
          · have hm9 : rW r P i ∉ tkI r P i := not_I mm9 hb9
            refine wp_iload dX6_init_187 rfl ?_
            refine wp_iconst (v := (-1)) dX6_init_189 (by decide +kernel) ?_
            refine wp_icmp_ne dX6_init_190 (fun q => absurd rfl q) (fun _ => ?_)
            refine wp_iload dX6_init_193 rfl ?_
            refine wp_istore (ls1 := [_, _, _, _, _, _, _, _, some _, _]) dX6_init_195 (by decide) rfl ?_
            refine wp_iinc1 (ls1 := [_, _, _, _, _, _, some _, _, _, _]) dX6_init_197 rfl (by decide) rfl ?_
            refine wp_aload_n dX6_init_200 rfl rfl ?_
            refine wp_getR dX6_init_201 lX6_38 rfl zp1_2.o zp1_2.r3 ?_
            refine wp_iload dX6_init_204 rfl ?_
            refine wp_iload dX6_init_206 rfl ?_
            refine wp_iastN dX6_init_208 zp1_2.a3 rfl ⟨by omega, by omega⟩ ?_
            refine zp1_2.w3 (fun hh7 f7 zp1_7 => ?_)
            refine wp_iinc1 (ls1 := [_, _, _, _, _, _, _, some _, _, _]) dX6_init_209 rfl (by decide) rfl ?_
            refine wp_goto dX6_init_212 ?_
            have en9 := idx_neo (by omega) hm9
            rw [← en9.1, hl5]
            exact ih (i + 1) _ _ _ _ _ (by omega) ((hf1.tr f2).tr f7) zp1_7 (fun k hk => by
              by_cases e9 : k = i
              · subst e9; exact upI_at _ _ _
              · rw [upI_ne e9]; exact hk1 k (by omega)) (fun k hk => by
              by_cases e9 : k = i
              · subst e9; exact (upI_at _ _ _).trans (congrArg nI en9.2.symm)
              · rw [upI_ne e9]; exact hn1 k (by omega)) (by omega)
  have w9 := hlp ((rT r P) + 1) 0 none none pk pn h (Nat.zero_le _) cFr.rf zp (fun k hk => absurd hk (Nat.not_lt_zero k)) (fun k hk => absurd hk (Nat.not_lt_zero k)) (by omega)
  rw [tkI_0] at w9
  exact w9
