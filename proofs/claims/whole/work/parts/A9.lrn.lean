/-! ===== what is learnt: measured, woven ===== -/
def zJ (ow : Nat → Nat) (h : mH) (a ρ n : Nat) (nr : Nat → Int64) (nf : Int32) (nm : Int32) (n1 : Int32) (n2 : Int32) : Prop := (hO h a 4) ∧ (ow a = ρ) ∧ (hR h a 0 = some (a + 1)) ∧ (hA h (a + 1) 15 n) ∧ (ow (a + 1) = ρ) ∧ (hL h (a + 1) = nr) ∧ (hI h a 2 = nf) ∧ (hI h a 3 = nm) ∧ (hI h a 4 = n1) ∧ (hI h a 5 = n2)
theorem zJ.o {ow : Nat → Nat} {h : mH} {a ρ n : Nat} {nr : Nat → Int64} {nf : Int32} {nm : Int32} {n1 : Int32} {n2 : Int32} (g : zJ ow h a ρ n nr nf nm n1 n2) : hO h a 4 := g.1
theorem zJ.w {ow : Nat → Nat} {h : mH} {a ρ n : Nat} {nr : Nat → Int64} {nf : Int32} {nm : Int32} {n1 : Int32} {n2 : Int32} (g : zJ ow h a ρ n nr nf nm n1 n2) : ow a = ρ := g.2.1
theorem zJ.r0 {ow : Nat → Nat} {h : mH} {a ρ n : Nat} {nr : Nat → Int64} {nf : Int32} {nm : Int32} {n1 : Int32} {n2 : Int32} (g : zJ ow h a ρ n nr nf nm n1 n2) : hR h a 0 = some (a + 1) := g.2.2.1
theorem zJ.a0 {ow : Nat → Nat} {h : mH} {a ρ n : Nat} {nr : Nat → Int64} {nf : Int32} {nm : Int32} {n1 : Int32} {n2 : Int32} (g : zJ ow h a ρ n nr nf nm n1 n2) : hA h (a + 1) 15 n := g.2.2.2.1
theorem zJ.v0 {ow : Nat → Nat} {h : mH} {a ρ n : Nat} {nr : Nat → Int64} {nf : Int32} {nm : Int32} {n1 : Int32} {n2 : Int32} (g : zJ ow h a ρ n nr nf nm n1 n2) : ow (a + 1) = ρ := g.2.2.2.2.1
theorem zJ.c0 {ow : Nat → Nat} {h : mH} {a ρ n : Nat} {nr : Nat → Int64} {nf : Int32} {nm : Int32} {n1 : Int32} {n2 : Int32} (g : zJ ow h a ρ n nr nf nm n1 n2) : hL h (a + 1) = nr := g.2.2.2.2.2.1
theorem zJ.f2 {ow : Nat → Nat} {h : mH} {a ρ n : Nat} {nr : Nat → Int64} {nf : Int32} {nm : Int32} {n1 : Int32} {n2 : Int32} (g : zJ ow h a ρ n nr nf nm n1 n2) : hI h a 2 = nf := g.2.2.2.2.2.2.1
theorem zJ.f3 {ow : Nat → Nat} {h : mH} {a ρ n : Nat} {nr : Nat → Int64} {nf : Int32} {nm : Int32} {n1 : Int32} {n2 : Int32} (g : zJ ow h a ρ n nr nf nm n1 n2) : hI h a 3 = nm := g.2.2.2.2.2.2.2.1
theorem zJ.f4 {ow : Nat → Nat} {h : mH} {a ρ n : Nat} {nr : Nat → Int64} {nf : Int32} {nm : Int32} {n1 : Int32} {n2 : Int32} (g : zJ ow h a ρ n nr nf nm n1 n2) : hI h a 4 = n1 := g.2.2.2.2.2.2.2.2.1
theorem zJ.f5 {ow : Nat → Nat} {h : mH} {a ρ n : Nat} {nr : Nat → Int64} {nf : Int32} {nm : Int32} {n1 : Int32} {n2 : Int32} (g : zJ ow h a ρ n nr nf nm n1 n2) : hI h a 5 = n2 := g.2.2.2.2.2.2.2.2.2
theorem zJ.fr {ow : Nat → Nat} {h : mH} {a ρ n : Nat} {nr : Nat → Int64} {nf : Int32} {nm : Int32} {n1 : Int32} {n2 : Int32} {S : List Nat} {u : Nat} {ow' : Nat → Nat} {h' : mH} (g : zJ ow h a ρ n nr nf nm n1 n2) (f : cFr S u ow h ow' h') (hs : ρ ∉ S) : zJ ow' h' a ρ n nr nf nm n1 n2 := by
  have s0 := f.s g.o.1 g.w hs
  have s1 := f.s g.a0.1 g.v0 hs
  exact ⟨f.o g.o, (f.w g.o.1).trans g.w, (congrFun s0.2.2 0).trans g.r0, f.a g.a0, (f.w g.a0.1).trans g.v0, s1.2.1.trans g.c0, (congrFun s0.1 2).trans g.f2, (congrFun s0.1 3).trans g.f3, (congrFun s0.1 4).trans g.f4, (congrFun s0.1 5).trans g.f5⟩
theorem zJ.w0 {ow : Nat → Nat} {h : mH} {a ρ n : Nat} {nr : Nat → Int64} {nf : Int32} {nm : Int32} {n1 : Int32} {n2 : Int32} {M : mM} {fr9 lo9 pc9 : Nat} {ls9 : List (Option Value)} {sk9 : List Value} {Q : Option Value → mH → Prop} {j9 : Nat} {v9 : Int64} (g : zJ ow h a ρ n nr nf nm n1 n2) (K : ∀ h', cFr [ρ] 0 ow h ow h' → zJ ow h' a ρ n (up1 nr j9 v9) nf nm n1 n2 → Wp M fr9 lo9 pc9 ls9 sk9 h' Q) : Wp M fr9 lo9 pc9 ls9 sk9 (sL h (a + 1) j9 v9) Q := by
  exact K _ (cFr_sL g.v0) ⟨g.o, g.w, g.r0, g.a0, g.v0, (by rw [hL_up, g.c0]), g.f2, g.f3, g.f4, g.f5⟩
theorem zJ.p2 {ow : Nat → Nat} {h : mH} {a ρ n : Nat} {nr : Nat → Int64} {nf : Int32} {nm : Int32} {n1 : Int32} {n2 : Int32} {M : mM} {fr9 lo9 pc9 : Nat} {ls9 : List (Option Value)} {sk9 : List Value} {Q : Option Value → mH → Prop} {v9 : Int32} (g : zJ ow h a ρ n nr nf nm n1 n2) (K : ∀ h', cFr [ρ] 0 ow h ow h' → zJ ow h' a ρ n nr v9 nm n1 n2 → Wp M fr9 lo9 pc9 ls9 sk9 h' Q) : Wp M fr9 lo9 pc9 ls9 sk9 (sI h a 2 v9) Q := by
  exact K _ (cFr_sI g.w) ⟨g.o, g.w, g.r0, g.a0, g.v0, g.c0, (by rw [hI_sI, if_pos ⟨rfl, rfl⟩]), (by rw [hI_sI, if_neg (by omega)]; exact g.f3), (by rw [hI_sI, if_neg (by omega)]; exact g.f4), (by rw [hI_sI, if_neg (by omega)]; exact g.f5)⟩
theorem zJ.p3 {ow : Nat → Nat} {h : mH} {a ρ n : Nat} {nr : Nat → Int64} {nf : Int32} {nm : Int32} {n1 : Int32} {n2 : Int32} {M : mM} {fr9 lo9 pc9 : Nat} {ls9 : List (Option Value)} {sk9 : List Value} {Q : Option Value → mH → Prop} {v9 : Int32} (g : zJ ow h a ρ n nr nf nm n1 n2) (K : ∀ h', cFr [ρ] 0 ow h ow h' → zJ ow h' a ρ n nr nf v9 n1 n2 → Wp M fr9 lo9 pc9 ls9 sk9 h' Q) : Wp M fr9 lo9 pc9 ls9 sk9 (sI h a 3 v9) Q := by
  exact K _ (cFr_sI g.w) ⟨g.o, g.w, g.r0, g.a0, g.v0, g.c0, (by rw [hI_sI, if_neg (by omega)]; exact g.f2), (by rw [hI_sI, if_pos ⟨rfl, rfl⟩]), (by rw [hI_sI, if_neg (by omega)]; exact g.f4), (by rw [hI_sI, if_neg (by omega)]; exact g.f5)⟩
theorem zJ.p4 {ow : Nat → Nat} {h : mH} {a ρ n : Nat} {nr : Nat → Int64} {nf : Int32} {nm : Int32} {n1 : Int32} {n2 : Int32} {M : mM} {fr9 lo9 pc9 : Nat} {ls9 : List (Option Value)} {sk9 : List Value} {Q : Option Value → mH → Prop} {v9 : Int32} (g : zJ ow h a ρ n nr nf nm n1 n2) (K : ∀ h', cFr [ρ] 0 ow h ow h' → zJ ow h' a ρ n nr nf nm v9 n2 → Wp M fr9 lo9 pc9 ls9 sk9 h' Q) : Wp M fr9 lo9 pc9 ls9 sk9 (sI h a 4 v9) Q := by
  exact K _ (cFr_sI g.w) ⟨g.o, g.w, g.r0, g.a0, g.v0, g.c0, (by rw [hI_sI, if_neg (by omega)]; exact g.f2), (by rw [hI_sI, if_neg (by omega)]; exact g.f3), (by rw [hI_sI, if_pos ⟨rfl, rfl⟩]), (by rw [hI_sI, if_neg (by omega)]; exact g.f5)⟩
theorem zJ.p5 {ow : Nat → Nat} {h : mH} {a ρ n : Nat} {nr : Nat → Int64} {nf : Int32} {nm : Int32} {n1 : Int32} {n2 : Int32} {M : mM} {fr9 lo9 pc9 : Nat} {ls9 : List (Option Value)} {sk9 : List Value} {Q : Option Value → mH → Prop} {v9 : Int32} (g : zJ ow h a ρ n nr nf nm n1 n2) (K : ∀ h', cFr [ρ] 0 ow h ow h' → zJ ow h' a ρ n nr nf nm n1 v9 → Wp M fr9 lo9 pc9 ls9 sk9 h' Q) : Wp M fr9 lo9 pc9 ls9 sk9 (sI h a 5 v9) Q := by
  exact K _ (cFr_sI g.w) ⟨g.o, g.w, g.r0, g.a0, g.v0, g.c0, (by rw [hI_sI, if_neg (by omega)]; exact g.f2), (by rw [hI_sI, if_neg (by omega)]; exact g.f3), (by rw [hI_sI, if_neg (by omega)]; exact g.f4), (by rw [hI_sI, if_pos ⟨rfl, rfl⟩])⟩
def zK (ow : Nat → Nat) (h : mH) (a ρ : Nat) (nf : Int32) (nm : Int32) (n1 : Int32) (n2 : Int32) : Prop := (hO h a 4) ∧ (ow a = ρ) ∧ (hI h a 2 = nf) ∧ (hI h a 3 = nm) ∧ (hI h a 4 = n1) ∧ (hI h a 5 = n2)
theorem zK.o {ow : Nat → Nat} {h : mH} {a ρ : Nat} {nf : Int32} {nm : Int32} {n1 : Int32} {n2 : Int32} (g : zK ow h a ρ nf nm n1 n2) : hO h a 4 := g.1
theorem zK.w {ow : Nat → Nat} {h : mH} {a ρ : Nat} {nf : Int32} {nm : Int32} {n1 : Int32} {n2 : Int32} (g : zK ow h a ρ nf nm n1 n2) : ow a = ρ := g.2.1
theorem zK.f2 {ow : Nat → Nat} {h : mH} {a ρ : Nat} {nf : Int32} {nm : Int32} {n1 : Int32} {n2 : Int32} (g : zK ow h a ρ nf nm n1 n2) : hI h a 2 = nf := g.2.2.1
theorem zK.f3 {ow : Nat → Nat} {h : mH} {a ρ : Nat} {nf : Int32} {nm : Int32} {n1 : Int32} {n2 : Int32} (g : zK ow h a ρ nf nm n1 n2) : hI h a 3 = nm := g.2.2.2.1
theorem zK.f4 {ow : Nat → Nat} {h : mH} {a ρ : Nat} {nf : Int32} {nm : Int32} {n1 : Int32} {n2 : Int32} (g : zK ow h a ρ nf nm n1 n2) : hI h a 4 = n1 := g.2.2.2.2.1
theorem zK.f5 {ow : Nat → Nat} {h : mH} {a ρ : Nat} {nf : Int32} {nm : Int32} {n1 : Int32} {n2 : Int32} (g : zK ow h a ρ nf nm n1 n2) : hI h a 5 = n2 := g.2.2.2.2.2
theorem zK.fr {ow : Nat → Nat} {h : mH} {a ρ : Nat} {nf : Int32} {nm : Int32} {n1 : Int32} {n2 : Int32} {S : List Nat} {u : Nat} {ow' : Nat → Nat} {h' : mH} (g : zK ow h a ρ nf nm n1 n2) (f : cFr S u ow h ow' h') (hs : ρ ∉ S) : zK ow' h' a ρ nf nm n1 n2 := by
  have s0 := f.s g.o.1 g.w hs
  exact ⟨f.o g.o, (f.w g.o.1).trans g.w, (congrFun s0.1 2).trans g.f2, (congrFun s0.1 3).trans g.f3, (congrFun s0.1 4).trans g.f4, (congrFun s0.1 5).trans g.f5⟩
theorem zK.p2 {ow : Nat → Nat} {h : mH} {a ρ : Nat} {nf : Int32} {nm : Int32} {n1 : Int32} {n2 : Int32} {M : mM} {fr9 lo9 pc9 : Nat} {ls9 : List (Option Value)} {sk9 : List Value} {Q : Option Value → mH → Prop} {v9 : Int32} (g : zK ow h a ρ nf nm n1 n2) (K : ∀ h', cFr [ρ] 0 ow h ow h' → zK ow h' a ρ v9 nm n1 n2 → Wp M fr9 lo9 pc9 ls9 sk9 h' Q) : Wp M fr9 lo9 pc9 ls9 sk9 (sI h a 2 v9) Q := by
  exact K _ (cFr_sI g.w) ⟨g.o, g.w, (by rw [hI_sI, if_pos ⟨rfl, rfl⟩]), (by rw [hI_sI, if_neg (by omega)]; exact g.f3), (by rw [hI_sI, if_neg (by omega)]; exact g.f4), (by rw [hI_sI, if_neg (by omega)]; exact g.f5)⟩
theorem zK.p3 {ow : Nat → Nat} {h : mH} {a ρ : Nat} {nf : Int32} {nm : Int32} {n1 : Int32} {n2 : Int32} {M : mM} {fr9 lo9 pc9 : Nat} {ls9 : List (Option Value)} {sk9 : List Value} {Q : Option Value → mH → Prop} {v9 : Int32} (g : zK ow h a ρ nf nm n1 n2) (K : ∀ h', cFr [ρ] 0 ow h ow h' → zK ow h' a ρ nf v9 n1 n2 → Wp M fr9 lo9 pc9 ls9 sk9 h' Q) : Wp M fr9 lo9 pc9 ls9 sk9 (sI h a 3 v9) Q := by
  exact K _ (cFr_sI g.w) ⟨g.o, g.w, (by rw [hI_sI, if_neg (by omega)]; exact g.f2), (by rw [hI_sI, if_pos ⟨rfl, rfl⟩]), (by rw [hI_sI, if_neg (by omega)]; exact g.f4), (by rw [hI_sI, if_neg (by omega)]; exact g.f5)⟩
theorem zK.p4 {ow : Nat → Nat} {h : mH} {a ρ : Nat} {nf : Int32} {nm : Int32} {n1 : Int32} {n2 : Int32} {M : mM} {fr9 lo9 pc9 : Nat} {ls9 : List (Option Value)} {sk9 : List Value} {Q : Option Value → mH → Prop} {v9 : Int32} (g : zK ow h a ρ nf nm n1 n2) (K : ∀ h', cFr [ρ] 0 ow h ow h' → zK ow h' a ρ nf nm v9 n2 → Wp M fr9 lo9 pc9 ls9 sk9 h' Q) : Wp M fr9 lo9 pc9 ls9 sk9 (sI h a 4 v9) Q := by
  exact K _ (cFr_sI g.w) ⟨g.o, g.w, (by rw [hI_sI, if_neg (by omega)]; exact g.f2), (by rw [hI_sI, if_neg (by omega)]; exact g.f3), (by rw [hI_sI, if_pos ⟨rfl, rfl⟩]), (by rw [hI_sI, if_neg (by omega)]; exact g.f5)⟩
theorem zK.p5 {ow : Nat → Nat} {h : mH} {a ρ : Nat} {nf : Int32} {nm : Int32} {n1 : Int32} {n2 : Int32} {M : mM} {fr9 lo9 pc9 : Nat} {ls9 : List (Option Value)} {sk9 : List Value} {Q : Option Value → mH → Prop} {v9 : Int32} (g : zK ow h a ρ nf nm n1 n2) (K : ∀ h', cFr [ρ] 0 ow h ow h' → zK ow h' a ρ nf nm n1 v9 → Wp M fr9 lo9 pc9 ls9 sk9 h' Q) : Wp M fr9 lo9 pc9 ls9 sk9 (sI h a 5 v9) Q := by
  exact K _ (cFr_sI g.w) ⟨g.o, g.w, (by rw [hI_sI, if_neg (by omega)]; exact g.f2), (by rw [hI_sI, if_neg (by omega)]; exact g.f3), (by rw [hI_sI, if_neg (by omega)]; exact g.f4), (by rw [hI_sI, if_pos ⟨rfl, rfl⟩])⟩
theorem rM_8 {r : Nat → Int64} {F : Nat} {pa my : Nat → Int32} {f p : Nat} (hd : sOK r F pa my) (hf : f < 4) (hp : p < 6) : rM r f p ≤ 8 := (hd.w.2.2 f p hf hp).1.2
theorem ptI_f {β : Type} {r : Nat → Int64} {f p i : Nat} {g : β → Nat × Nat × Nat → β} {a : β} : (ptI r f p (i + 1)).foldl g a = g ((ptI r f p i).foldl g a) (p, rA r f p i, rB r f p i) := by
  rw [ptI_s, List.foldl_append]; rfl
theorem pt_len {r : Nat → Int64} {F : Nat} {pa my : Nat → Int32} {f p i : Nat} (hd : sOK r F pa my) (hf : f < 4) (hp : p < rP r) (hi : i < rM r f p) : rA r f p i < rB r f p i ∧ rB r f p i ≤ rT r p ∧ rT r p ≤ 40 ∧ rM r f p ≤ 8 := by
  have hP6 := hd.w.1.2
  have h1 := srt_mk (p := p) hd hf (by omega) i (by rw [mkL_len]; exact hi)
  rw [mkL_getD hi] at h1
  exact ⟨h1.1, h1.2.1, (hd.w.2.1 p (by omega)).2, rM_8 hd (by omega) (by omega)⟩
theorem sh_b {r : Nat → Int64} {F : Nat} {pa my : Nat → Int32} {f p i : Nat} {s0 : Nat × Nat × Nat × Nat} (hd : sOK r F pa my) (hf : f < 4) (hp : p < rP r) (hi : i ≤ rM r f p) (hb : s0.1 ≤ 41 ∧ s0.2.1 ≤ 41 ∧ s0.2.2.1 < 8 ∧ s0.2.2.2 < 8) : ((ptI r f p i).foldl (shF r) s0).1 ≤ 41 ∧ ((ptI r f p i).foldl (shF r) s0).2.1 ≤ 41 ∧ ((ptI r f p i).foldl (shF r) s0).2.2.1 < 8 ∧ ((ptI r f p i).foldl (shF r) s0).2.2.2 < 8 := by
  refine shA_bd _ s0 hb.1 hb.2.1 hb.2.2.1 hb.2.2.2 (fun x hx => ?_)
  unfold ptI at hx
  obtain ⟨j, hj, e⟩ := List.mem_map.mp hx
  have := pt_len hd hf hp (i := j) (by have := List.mem_range.mp hj; omega)
  rw [← e]
  show rB r f p j - rA r f p j ≤ 41
  omega
set_option maxRecDepth 20000 in
theorem pX4_measure {h : mH} {Q : Option Value → mH → Prop} {ow : Nat → Nat} {a ρ n q F p f : Nat} {r : Nat → Int64} {pa my : Nat → Int32} {nr : Nat → Int64} {s0 : Nat × Nat × Nat × Nat} (zj : zJ ow h a ρ n nr (nI s0.1) (nI s0.2.1) (nI s0.2.2.1) (nI s0.2.2.2)) (hd : sOK r F pa my) (hf : f < 4) (hp : p < rP r) (pg : pgR ow h q r p) (hρ : 0 < ρ) (hb : s0.1 ≤ 41 ∧ s0.2.1 ≤ 41 ∧ s0.2.2.1 < 8 ∧ s0.2.2.2 < 8) (hq : ∀ h', cFr [ρ] 0 ow h ow h' → zJ ow h' a ρ n nr (nI ((ptI r f p (rM r f p)).foldl (shF r) s0).1) (nI ((ptI r f p (rM r f p)).foldl (shF r) s0).2.1) (nI ((ptI r f p (rM r f p)).foldl (shF r) s0).2.2.1) (nI ((ptI r f p (rM r f p)).foldl (shF r) s0).2.2.2) → Q none h') : Wp mX4_measure 3 67 0 [some (.ref a), some (.ref q), some (.long (lN (bsA (mkL r f p)))), none, some (.long (lN (bsE (mkL r f p)))), none, none, none, none, none] [] h Q := by
  have hP6 := hd.w.1.2
  have hT40 := (hd.w.2.1 p (by omega)).2
  have hM8 := rM_8 (p := p) hd hf (by omega)
  have hloop : ∀  (t9 : Nat) (i : Nat) (l8 : Option Value) (l9 : Option Value) (h1 : mH), (i ≤ rM r f p) → (cFr [ρ] 0 ow h ow h1) → (zJ ow h1 a ρ n nr (nI ((ptI r f p i).foldl (shF r) s0).1) (nI ((ptI r f p i).foldl (shF r) s0).2.1) (nI ((ptI r f p i).foldl (shF r) s0).2.2.1) (nI ((ptI r f p i).foldl (shF r) s0).2.2.2)) → (pgR ow h1 q r p) → (rM r f p < i + t9) → Wp mX4_measure 3 67 9 [some (.ref a), some (.ref q), some (.long (lN (bsA (mkL r f p)))), none, some (.long (lN (bsE (mkL r f p)))), none, some (.int (nI (rM r f p))), some (.int (nI i)), l8, l9] [] h1 Q := by
    intro t9
    induction t9 with
    | zero => intros; omega
    | succ t9 ih =>
      intro i l8 l9 h1 hi hf1 zj1 pg1 hmz
      refine wp_iload dX4_measure_9 rfl ?_
      refine wp_iload dX4_measure_11 rfl ?_
      refine wp_icmp_geN dX4_measure_13 rfl rfl ⟨by omega, by omega⟩ (fun c2 => ?_) (fun c2 => ?_)
      · refine wp_vreturn dX4_measure_111 rfl ?_
        have ei9 : i = rM r f p := by omega
        subst ei9
        exact hq _ hf1 zj1
      · refine wp_aload_n dX4_measure_16 rfl rfl ?_
        refine wp_ifnull dX4_measure_17 ?_
        have hl9 := pt_len hd hf hp (i := i) (by omega)
        have hb9 := sh_b hd hf hp (i := i) (by omega) hb
        refine wp_lload_n dX4_measure_20 rfl rfl ?_
        refine wp_iload dX4_measure_21 rfl ?_
        refine wp_cSN2 2 42 [some _, none, some _, none, none, none] dX4_measure_23 tX11_nth sX11_nth lX4_78 ⟨by decide, by decide⟩ (Nat.le_of_ble_eq_true rfl) (Nat.le_of_ble_eq_true rfl) rfl ?_
        refine pX11_nth (srt_asc (srt_mk hd hf (by omega)) (by omega)).1 (by rw [List.length_map, mkL_len]; omega) (by rw [List.length_map, mkL_len]; omega) ?_
        intro _ _
        rw [map_getD rfl, mkL_getD (by omega)]
        refine wp_istore (ls1 := [_, _, _, _, _, _, _, _, some _, _]) dX4_measure_26 (by decide) rfl ?_
        refine wp_lload dX4_measure_28 rfl ?_
        refine wp_iload dX4_measure_30 rfl ?_
        refine wp_cSN2 2 42 [some _, none, some _, none, none, none] dX4_measure_32 tX11_nth sX11_nth lX4_78 ⟨by decide, by decide⟩ (Nat.le_of_ble_eq_true rfl) (Nat.le_of_ble_eq_true rfl) rfl ?_
        refine pX11_nth (srt_asc (srt_mk hd hf (by omega)) (by omega)).2 (by rw [List.length_map, mkL_len]; omega) (by rw [List.length_map, mkL_len]; omega) ?_
        intro _ _
        rw [map_getD rfl, mkL_getD (by omega)]
        refine wp_istore (ls1 := [_, _, _, _, _, _, _, _, _, some _]) dX4_measure_35 (by decide) rfl ?_
        refine wp_aload_n dX4_measure_37 rfl rfl ?_
        refine wp_aload_n dX4_measure_38 rfl rfl ?_
        refine wp_getIV dX4_measure_39 lX4_9 rfl zj1.o zj1.f2 ?_
        refine wp_iload dX4_measure_42 rfl ?_
        refine wp_iload dX4_measure_44 rfl ?_
        refine wp_isub dX4_measure_46 ?_
        refine wp_cS2 0 0 [some _, some _] dX4_measure_47 tJ9_min_7cf53 sJ9_min_7cf53 lX4_82 ⟨by decide, by decide⟩ (Nat.le_of_ble_eq_true rfl) (Nat.le_of_ble_eq_true rfl) rfl ?_
        try rw [pk_sub (by omega)]
        refine pJ9_min_7cf53 (by omega) (by omega) ?_
        intro _ _
        refine wp_putI dX4_measure_50 lX4_9 rfl (Or.inl rfl) zj1.o rfl rfl ?_
        refine zj1.p2 (fun hh1 f1 zj1_1 => ?_)
        have pg1_1 := pg1.fr f1 (rnS (by omega) rn0)
        refine wp_aload_n dX4_measure_53 rfl rfl ?_
        refine wp_aload_n dX4_measure_54 rfl rfl ?_
        refine wp_getIV dX4_measure_55 lX4_85 rfl zj1_1.o zj1_1.f3 ?_
        refine wp_iload dX4_measure_58 rfl ?_
        refine wp_iload dX4_measure_60 rfl ?_
        refine wp_isub dX4_measure_62 ?_
        refine wp_cS2 0 0 [some _, some _] dX4_measure_63 tJ9_max_7cf53 sJ9_max_7cf53 lX4_20 ⟨by decide, by decide⟩ (Nat.le_of_ble_eq_true rfl) (Nat.le_of_ble_eq_true rfl) rfl ?_
        try rw [pk_sub (by omega)]
        refine pJ9_max_7cf53 (by omega) (by omega) ?_
        intro _ _
        refine wp_putI dX4_measure_66 lX4_85 rfl (Or.inl rfl) zj1_1.o rfl rfl ?_
        refine zj1_1.p3 (fun hh2 f2 zj1_2 => ?_)
        have pg1_2 := pg1_1.fr f2 (rnS (by omega) rn0)
        refine wp_aload_n dX4_measure_69 rfl rfl ?_
        refine wp_dup dX4_measure_70 rfl ?_
        refine wp_getIV dX4_measure_71 lX4_88 rfl zj1_2.o zj1_2.f4 ?_
        refine wp_iconst (v := (nI 1)) dX4_measure_74 (by decide +kernel) ?_
        refine wp_aload_n dX4_measure_75 rfl rfl ?_
        refine wp_iload dX4_measure_76 rfl ?_
        refine wp_cV1 0 0 [some _, some _] dX4_measure_78 tX6_kindAt rfl (by decide) nX6_kindAt vX6_kindAt lX4_91 ⟨by decide, by decide⟩ (Nat.le_of_ble_eq_true rfl) pg1_2.oo (Nat.le_of_ble_eq_true rfl) rfl ?_
        refine pX6_kindAt hd hp pg1_2 (fun i3 hi3 ei3 => ?_) (fun xn3 => absurd xn3 (by rw [ix_nI (by omega) (by omega)]; exact fun z => by cases z))
        have ei3 := (nI_eq (by omega) (by omega)).mp ei3
        subst ei3
        intro _ _
        refine wp_ishl dX4_measure_81 ?_
        rw [nx_shl1 (Nat.lt_trans (kd_lt _) (by decide))]
        refine wp_ior dX4_measure_82 ?_
        rw [nx_or]
        refine wp_putI dX4_measure_83 lX4_88 rfl (Or.inl rfl) zj1_2.o rfl rfl ?_
        refine zj1_2.p4 (fun hh4 f4 zj1_4 => ?_)
        have pg1_4 := pg1_2.fr f4 (rnS (by omega) rn0)
        refine wp_aload_n dX4_measure_86 rfl rfl ?_
        refine wp_dup dX4_measure_87 rfl ?_
        refine wp_getIV dX4_measure_88 lX4_97 rfl zj1_4.o zj1_4.f5 ?_
        refine wp_iconst (v := (nI 1)) dX4_measure_91 (by decide +kernel) ?_
        refine wp_aload_n dX4_measure_92 rfl rfl ?_
        refine wp_iload dX4_measure_93 rfl ?_
        refine wp_iconst (v := (nI 1)) dX4_measure_95 (by decide +kernel) ?_
        refine wp_isub dX4_measure_96 ?_
        refine wp_cV1 0 0 [some _, some _] dX4_measure_97 tX6_kindAt rfl (by decide) nX6_kindAt vX6_kindAt lX4_91 ⟨by decide, by decide⟩ (Nat.le_of_ble_eq_true rfl) pg1_4.oo (Nat.le_of_ble_eq_true rfl) rfl ?_
        try rw [pk_sub (by omega)]
        refine pX6_kindAt hd hp pg1_4 (fun i5 hi5 ei5 => ?_) (fun xn5 => absurd xn5 (by rw [ix_nI (by omega) (by omega)]; exact fun z => by cases z))
        have ei5 := (nI_eq (by omega) (by omega)).mp ei5
        subst ei5
        intro _ _
        refine wp_ishl dX4_measure_100 ?_
        rw [nx_shl1 (Nat.lt_trans (kd_lt _) (by decide))]
        refine wp_ior dX4_measure_101 ?_
        rw [nx_or]
        refine wp_putI dX4_measure_102 lX4_97 rfl (Or.inl rfl) zj1_4.o rfl rfl ?_
        refine zj1_4.p5 (fun hh6 f6 zj1_6 => ?_)
        have pg1_6 := pg1_4.fr f6 (rnS (by omega) rn0)
        refine wp_iinc1 (ls1 := [_, _, _, _, _, _, _, some _, _, _]) dX4_measure_105 rfl (by decide) rfl ?_
        refine wp_goto dX4_measure_108 ?_
        exact ih (i + 1) _ _ _ (by omega) (((((hf1.up (fun x hx => by simp at hx ⊢; omega) (Nat.le_refl _)).tr (f1.up (fun x hx => by simp at hx ⊢; omega) (Nat.le_refl _))).tr (f2.up (fun x hx => by simp at hx ⊢; omega) (Nat.le_refl _))).tr (f4.up (fun x hx => by simp at hx ⊢; omega) (Nat.le_refl _))).tr (f6.up (fun x hx => by simp at hx ⊢; omega) (Nat.le_refl _))) (by rw [ptI_f]; exact zj1_6) pg1_6 (by omega)
  refine wp_lload_n dX4_measure_0 rfl rfl ?_
  refine wp_cS1 0 0 [some _, none] dX4_measure_1 tJ13_bitCount_95d88 sJ13_bitCount_95d88 lX4_72 ⟨by decide, by decide⟩ (Nat.le_of_ble_eq_true rfl) (Nat.le_of_ble_eq_true rfl) rfl ?_
  refine pJ13_bitCount_95d88 (Nat.lt_trans (bsA_lt hd hf (by omega)).1 (by decide)) ?_
  intro _ _
  rw [pop_mk hd hf (by omega)]
  refine wp_istore (ls1 := [_, _, _, _, _, _, some _, _, _, _]) dX4_measure_4 (by decide) rfl ?_
  refine wp_iconst (v := (nI 0)) dX4_measure_6 (by decide +kernel) ?_
  refine wp_istore (ls1 := [_, _, _, _, _, _, _, some _, _, _]) dX4_measure_7 (by decide) rfl ?_
  exact hloop (rM r f p + 1) 0 _ _ h (Nat.zero_le _) cFr.rf zj pg (by omega)
theorem ka_b {r : Nat → Int64} {f p i k c : Nat} (hc : c ≤ 4) : (ptI r f p i).foldl (kaF r k) c ≤ 4 := (kaA_bd _ c hc).1
theorem itm_p {c d : Nat} (hc : c ≤ 4) (hd : d < 3) : (itm c = -1 ∨ itm c = nI d) ↔ (c = 0 ∨ c = d + 1) := by
  unfold itm
  by_cases e : c = 0
  · rw [if_pos e]
    exact ⟨fun _ => Or.inl e, fun _ => Or.inl rfl⟩
  · rw [if_neg e]
    constructor
    · rintro (z | z)
      · exact absurd z (nI_ne_m1 (by omega))
      · have := (nI_eq (by omega) (by omega)).mp z
        omega
    · rintro (z | z)
      · exact absurd z e
      · exact Or.inr (congrArg nI (by omega))
set_option maxRecDepth 20000 in
theorem weaveC_in {h : mH} {Q : Option Value → mH → Prop} {ow : Nat → Nat} {a ρ n m q F p f : Nat} {r : Nat → Int64} {pa my : Nat → Int32} {nr : Nat → Int64} {np : Nat → Int32} {nf nm n1 n2 : Int32} {c0 : Nat → Nat} {i : Nat} {l8 l9 : Option Value} (zn : zN ow h a ρ n m nr np nf nm n1 n2) (hd : sOK r F pa my) (hf : f < 4) (hp : p < rP r) (pg : pgR ow h q r p) (hρ : 0 < ρ) (hc0 : ∀ k, c0 k ≤ 4) (hi : i < rM r f p) (hm : m ≤ rB r f p i - rA r f p i) (hnp : ∀ k, k < m → np k = itm ((ptI r f p i).foldl (kaF r k) (c0 k))) (K9 : ∀ h' np' l8 l9, cFr [ρ] 0 ow h ow h' → zN ow h' a ρ n m nr np' nf nm n1 n2 → pgR ow h' q r p → (∀ k, k < m → np' k = itm ((ptI r f p (i + 1)).foldl (kaF r k) (c0 k))) → Wp mX4_weave 3 67 106 [some (.ref a), some (.ref q), some (.long (lN (bsA (mkL r f p)))), none, some (.int (nI (rM r f p))), some (.int (nI i)), some (.int (nI (rA r f p i))), some (.int (nI m)), l8, l9] [] h' Q) : Wp mX4_weave 3 67 31 [some (.ref a), some (.ref q), some (.long (lN (bsA (mkL r f p)))), none, some (.int (nI (rM r f p))), some (.int (nI i)), some (.int (nI (rA r f p i))), some (.int (nI 0)), l8, l9] [] h Q := by
  have hP6 := hd.w.1.2
  have hT40 := (hd.w.2.1 p (by omega)).2
  have hM8 := rM_8 (p := p) hd hf (by omega)
  have hl9 := pt_len hd hf hp hi
  have hloop : ∀  (t9 : Nat) (k : Nat) (np1 : Nat → Int32) (l8 : Option Value) (l9 : Option Value) (h1 : mH), (k ≤ m) → (cFr [ρ] 0 ow h ow h1) → (zN ow h1 a ρ n m nr np1 nf nm n1 n2) → (pgR ow h1 q r p) → (∀ j, j < k → np1 j = itm ((ptI r f p (i + 1)).foldl (kaF r j) (c0 j))) → (∀ j, k ≤ j → j < m → np1 j = itm ((ptI r f p i).foldl (kaF r j) (c0 j))) → (m < k + t9) → Wp mX4_weave 3 67 31 [some (.ref a), some (.ref q), some (.long (lN (bsA (mkL r f p)))), none, some (.int (nI (rM r f p))), some (.int (nI i)), some (.int (nI (rA r f p i))), some (.int (nI k)), l8, l9] [] h1 Q := by
    intro t9
    induction t9 with
    | zero => intros; omega
    | succ t9 ih =>
      intro k np1 l8 l9 h1 hk hf1 zn1 pg1 hlt hge hmz
      refine wp_iload dX4_weave_31 rfl ?_
      refine wp_aload_n dX4_weave_33 rfl rfl ?_
      refine wp_getR dX4_weave_34 lX4_59 rfl zn1.o zn1.r1 ?_
      refine wp_alen dX4_weave_37 zn1.a1 (by decide) (by decide) rfl ?_
      refine wp_icmp_geN dX4_weave_38 rfl rfl ⟨by omega, by omega⟩ (fun c2 => ?_) (fun c2 => ?_)
      · have ek9 : k = m := by omega
        subst ek9
        exact K9 _ _ _ _ hf1 zn1 pg1 (fun j hj => hlt j hj)
      · have hk9 : k < m := by omega
        have ec9 := hge k (Nat.le_refl k) hk9
        have hc9 := ka_b (r := r) (f := f) (p := p) (i := i) (k := k) (hc0 k)
        refine wp_aload_n dX4_weave_41 rfl rfl ?_
        refine wp_iload dX4_weave_42 rfl ?_
        refine wp_iload dX4_weave_44 rfl ?_
        refine wp_iadd dX4_weave_46 ?_
        refine wp_cV1 0 0 [some _, some _] dX4_weave_47 tX6_kindAt rfl (by decide) nX6_kindAt vX6_kindAt lX4_91 ⟨by decide, by decide⟩ (Nat.le_of_ble_eq_true rfl) pg1.oo (Nat.le_of_ble_eq_true rfl) rfl ?_
        rw [nI_add]
        refine pX6_kindAt hd hp pg1 (fun i1 hi1 ei1 => ?_) (fun xn1 => absurd xn1 (by rw [ix_nI (by omega) (by omega)]; exact fun z => by cases z))
        have ei1 := (nI_eq (by omega) (by omega)).mp ei1
        subst ei1
        intro _ _
        refine wp_istore (ls1 := [_, _, _, _, _, _, _, _, some _, _]) dX4_weave_50 (by decide) rfl ?_
        have hip := itm_p (c := ((ptI r f p i).foldl (kaF r k) (c0 k))) hc9 (kd_lt (rW r p (rA r f p i + k)))
        refine wp_aload_n dX4_weave_52 rfl rfl ?_
        refine wp_getR dX4_weave_53 lX4_59 rfl zn1.o zn1.r1 ?_
        refine wp_iload dX4_weave_56 rfl ?_
        refine wp_ialdV dX4_weave_58 zn1.a1 rfl ⟨by omega, by omega⟩ (congrFun zn1.c1 _) ?_
        refine wp_iconst (v := (-1)) dX4_weave_59 (by decide +kernel) ?_
        refine wp_icmp_eq dX4_weave_60 (fun c3 => ?_) (fun c3 => ?_)
        · refine wp_iconst (v := (nI 1)) dX4_weave_75 (by decide +kernel) ?_
          refine wp_goto dX4_weave_76 ?_
          refine wp_istore (ls1 := [_, _, _, _, _, _, _, _, _, some _]) dX4_weave_80 (by decide) rfl ?_
          refine wp_aload_n dX4_weave_82 rfl rfl ?_
          refine wp_getR dX4_weave_83 lX4_59 rfl zn1.o zn1.r1 ?_
          refine wp_iload dX4_weave_86 rfl ?_
          refine wp_iload dX4_weave_88 rfl ?_
          refine wp_if_eq dX4_weave_90 (fun q => absurd q (by decide +kernel)) (fun _ => ?_)
          refine wp_iload dX4_weave_93 rfl ?_
          refine wp_goto dX4_weave_95 ?_
          refine wp_iastN dX4_weave_99 zn1.a1 rfl ⟨by omega, by omega⟩ ?_
          refine zn1.w1 (fun hh2 f2 zn1_2 => ?_)
          have pg1_2 := pg1.fr f2 (rnS (by omega) rn0)
          refine wp_iinc1 (ls1 := [_, _, _, _, _, _, _, some _, _, _]) dX4_weave_100 rfl (by decide) rfl ?_
          refine wp_goto dX4_weave_103 ?_
          refine ih (k + 1) _ _ _ _ (by omega) ((hf1.up (fun x hx => by simp at hx ⊢; omega) (Nat.le_refl _)).tr (f2.up (fun x hx => by simp at hx ⊢; omega) (Nat.le_refl _))) zn1_2 pg1_2 (fun j hj => ?_) (fun j h1 h2 => (upI_ne (by omega)).trans (hge j (by omega) h2)) (by omega)
          by_cases e9 : j = k
          · subst e9
            rw [upI_at, ptI_f]
            rw [kaF_p (hip.mp (by first | exact Or.inl (ec9.symm.trans (by assumption)) | exact Or.inr (ec9.symm.trans (by assumption)))), itm_s]
          · rw [upI_ne e9]
            exact hlt j (by omega)
        · refine wp_aload_n dX4_weave_63 rfl rfl ?_
          refine wp_getR dX4_weave_64 lX4_59 rfl zn1.o zn1.r1 ?_
          refine wp_iload dX4_weave_67 rfl ?_
          refine wp_ialdV dX4_weave_69 zn1.a1 rfl ⟨by omega, by omega⟩ (congrFun zn1.c1 _) ?_
          refine wp_iload dX4_weave_70 rfl ?_
          refine wp_icmp_ne dX4_weave_72 (fun c5 => ?_) (fun c5 => ?_)
          · refine wp_iconst (v := (nI 0)) dX4_weave_79 (by decide +kernel) ?_
            refine wp_istore (ls1 := [_, _, _, _, _, _, _, _, _, some _]) dX4_weave_80 (by decide) rfl ?_
            refine wp_aload_n dX4_weave_82 rfl rfl ?_
            refine wp_getR dX4_weave_83 lX4_59 rfl zn1.o zn1.r1 ?_
            refine wp_iload dX4_weave_86 rfl ?_
            refine wp_iload dX4_weave_88 rfl ?_
            refine wp_if_eq dX4_weave_90 (fun _ => ?_) (fun q => absurd q (by decide +kernel))
            refine wp_iconst (v := (nI 3)) dX4_weave_98 (by decide +kernel) ?_
            refine wp_iastN dX4_weave_99 zn1.a1 rfl ⟨by omega, by omega⟩ ?_
            refine zn1.w1 (fun hh3 f3 zn1_3 => ?_)
            have pg1_3 := pg1.fr f3 (rnS (by omega) rn0)
            refine wp_iinc1 (ls1 := [_, _, _, _, _, _, _, some _, _, _]) dX4_weave_100 rfl (by decide) rfl ?_
            refine wp_goto dX4_weave_103 ?_
            refine ih (k + 1) _ _ _ _ (by omega) ((hf1.up (fun x hx => by simp at hx ⊢; omega) (Nat.le_refl _)).tr (f3.up (fun x hx => by simp at hx ⊢; omega) (Nat.le_refl _))) zn1_3 pg1_3 (fun j hj => ?_) (fun j h1 h2 => (upI_ne (by omega)).trans (hge j (by omega) h2)) (by omega)
            by_cases e9 : j = k
            · subst e9
              rw [upI_at, ptI_f]
              rw [kaF_n (fun z => by rcases hip.mpr z with z | z <;> exact absurd (ec9.trans z) (by assumption))]
              exact (itm_s 3).symm
            · rw [upI_ne e9]
              exact hlt j (by omega)
          · refine wp_iconst (v := (nI 1)) dX4_weave_75 (by decide +kernel) ?_
            refine wp_goto dX4_weave_76 ?_
            refine wp_istore (ls1 := [_, _, _, _, _, _, _, _, _, some _]) dX4_weave_80 (by decide) rfl ?_
            refine wp_aload_n dX4_weave_82 rfl rfl ?_
            refine wp_getR dX4_weave_83 lX4_59 rfl zn1.o zn1.r1 ?_
            refine wp_iload dX4_weave_86 rfl ?_
            refine wp_iload dX4_weave_88 rfl ?_
            refine wp_if_eq dX4_weave_90 (fun q => absurd q (by decide +kernel)) (fun _ => ?_)
            refine wp_iload dX4_weave_93 rfl ?_
            refine wp_goto dX4_weave_95 ?_
            refine wp_iastN dX4_weave_99 zn1.a1 rfl ⟨by omega, by omega⟩ ?_
            refine zn1.w1 (fun hh4 f4 zn1_4 => ?_)
            have pg1_4 := pg1.fr f4 (rnS (by omega) rn0)
            refine wp_iinc1 (ls1 := [_, _, _, _, _, _, _, some _, _, _]) dX4_weave_100 rfl (by decide) rfl ?_
            refine wp_goto dX4_weave_103 ?_
            refine ih (k + 1) _ _ _ _ (by omega) ((hf1.up (fun x hx => by simp at hx ⊢; omega) (Nat.le_refl _)).tr (f4.up (fun x hx => by simp at hx ⊢; omega) (Nat.le_refl _))) zn1_4 pg1_4 (fun j hj => ?_) (fun j h1 h2 => (upI_ne (by omega)).trans (hge j (by omega) h2)) (by omega)
            by_cases e9 : j = k
            · subst e9
              rw [upI_at, ptI_f]
              rw [kaF_p (hip.mp (by first | exact Or.inl (ec9.symm.trans (by assumption)) | exact Or.inr (ec9.symm.trans (by assumption)))), itm_s]
            · rw [upI_ne e9]
              exact hlt j (by omega)
  exact hloop (m + 1) 0 _ _ _ h (Nat.zero_le _) cFr.rf zn pg (fun j hj => absurd hj (Nat.not_lt_zero j)) (fun j _ hj => hnp j hj) (by omega)
set_option maxRecDepth 20000 in
theorem pX4_weave {h : mH} {Q : Option Value → mH → Prop} {ow : Nat → Nat} {a ρ n m q F p f : Nat} {r : Nat → Int64} {pa my : Nat → Int32} {nr : Nat → Int64} {np : Nat → Int32} {nf nm n1 n2 : Int32} {c0 : Nat → Nat} (zn : zN ow h a ρ n m nr np nf nm n1 n2) (hd : sOK r F pa my) (hf : f < 4) (hp : p < rP r) (pg : pgR ow h q r p) (hρ : 0 < ρ) (hc0 : ∀ k, c0 k ≤ 4) (hlen : ∀ i, i < rM r f p → m ≤ rB r f p i - rA r f p i) (hnp : ∀ k, k < m → np k = itm (c0 k)) (hq : ∀ h' np', cFr [ρ] 0 ow h ow h' → zN ow h' a ρ n m nr np' nf nm n1 n2 → (∀ k, k < m → np' k = itm ((ptI r f p (rM r f p)).foldl (kaF r k) (c0 k))) → Q none h') : Wp mX4_weave 3 67 0 [some (.ref a), some (.ref q), some (.long (lN (bsA (mkL r f p)))), none, none, none, none, none, none, none] [] h Q := by
  have hP6 := hd.w.1.2
  have hT40 := (hd.w.2.1 p (by omega)).2
  have hM8 := rM_8 (p := p) hd hf (by omega)
  have hloop : ∀  (t9 : Nat) (i : Nat) (np1 : Nat → Int32) (l6 : Option Value) (l7 : Option Value) (l8 : Option Value) (l9 : Option Value) (h1 : mH), (i ≤ rM r f p) → (cFr [ρ] 0 ow h ow h1) → (zN ow h1 a ρ n m nr np1 nf nm n1 n2) → (pgR ow h1 q r p) → (∀ k, k < m → np1 k = itm ((ptI r f p i).foldl (kaF r k) (c0 k))) → (rM r f p < i + t9) → Wp mX4_weave 3 67 9 [some (.ref a), some (.ref q), some (.long (lN (bsA (mkL r f p)))), none, some (.int (nI (rM r f p))), some (.int (nI i)), l6, l7, l8, l9] [] h1 Q := by
    intro t9
    induction t9 with
    | zero => intros; omega
    | succ t9 ih =>
      intro i np1 l6 l7 l8 l9 h1 hi hf1 zn1 pg1 hnp1 hmz
      refine wp_iload dX4_weave_9 rfl ?_
      refine wp_iload dX4_weave_11 rfl ?_
      refine wp_icmp_geN dX4_weave_13 rfl rfl ⟨by omega, by omega⟩ (fun c2 => ?_) (fun c2 => ?_)
      · refine wp_vreturn dX4_weave_112 rfl ?_
        have ei9 : i = rM r f p := by omega
        subst ei9
        exact hq _ _ hf1 zn1 hnp1
      · refine wp_aload_n dX4_weave_16 rfl rfl ?_
        refine wp_ifnull dX4_weave_17 ?_
        refine wp_lload_n dX4_weave_20 rfl rfl ?_
        refine wp_iload dX4_weave_21 rfl ?_
        refine wp_cSN2 2 42 [some _, none, some _, none, none, none] dX4_weave_23 tX11_nth sX11_nth lX4_78 ⟨by decide, by decide⟩ (Nat.le_of_ble_eq_true rfl) (Nat.le_of_ble_eq_true rfl) rfl ?_
        refine pX11_nth (srt_asc (srt_mk hd hf (by omega)) (by omega)).1 (by rw [List.length_map, mkL_len]; omega) (by rw [List.length_map, mkL_len]; omega) ?_
        intro _ _
        rw [map_getD rfl, mkL_getD (by omega)]
        refine wp_istore (ls1 := [_, _, _, _, _, _, some _, _, _, _]) dX4_weave_26 (by decide) rfl ?_
        refine wp_iconst (v := (nI 0)) dX4_weave_28 (by decide +kernel) ?_
        refine wp_istore (ls1 := [_, _, _, _, _, _, _, some _, _, _]) dX4_weave_29 (by decide) rfl ?_
        refine weaveC_in zn1 hd hf hp pg1 hρ hc0 (by omega) (hlen i (by omega)) hnp1 (fun h9 np9 l8 l9 f9 zn9 pg9 hnp9 => ?_)
        refine wp_iinc1 (ls1 := [_, _, _, _, _, some _, _, _, _, _]) dX4_weave_106 rfl (by decide) rfl ?_
        refine wp_goto dX4_weave_109 ?_
        exact ih (i + 1) _ _ _ _ _ _ (by omega) ((hf1.up (fun x hx => by simp at hx ⊢; omega) (Nat.le_refl _)).tr (f9.up (fun x hx => by simp at hx ⊢; omega) (Nat.le_refl _))) zn9 pg9 hnp9 (by omega)
  refine wp_lload_n dX4_weave_0 rfl rfl ?_
  refine wp_cS1 0 0 [some _, none] dX4_weave_1 tJ13_bitCount_95d88 sJ13_bitCount_95d88 lX4_72 ⟨by decide, by decide⟩ (Nat.le_of_ble_eq_true rfl) (Nat.le_of_ble_eq_true rfl) rfl ?_
  refine pJ13_bitCount_95d88 (Nat.lt_trans (bsA_lt hd hf (by omega)).1 (by decide)) ?_
  intro _ _
  rw [pop_mk hd hf (by omega)]
  refine wp_istore (ls1 := [_, _, _, _, some _, _, _, _, _, _]) dX4_weave_4 (by decide) rfl ?_
  refine wp_iconst (v := (nI 0)) dX4_weave_6 (by decide +kernel) ?_
  refine wp_istore (ls1 := [_, _, _, _, _, some _, _, _, _, _]) dX4_weave_7 (by decide) rfl ?_
  exact hloop (rM r f p + 1) 0 _ _ _ _ _ h (Nat.zero_le _) cFr.rf zn pg hnp (by omega)
