/-! ===== regions; whether cuts are as marked; what a rule is on an example ===== -/
def nOfI (x : Int32) : Nat := x.toInt.toNat
theorem nOfI_nI {j : Nat} (h : j < 2147483648) : nOfI (nI j) = j := by
  unfold nOfI
  rw [nI_toInt h]
  rfl
/-- cuts as a list -/
def cutsOK (h : mH) (l : List (Nat × Nat)) : Prop := hI h 153 35 = nI l.length ∧ l.length ≤ 8 ∧ ∀ i, i < l.length → hI h 169 i = nI (l.getD i (0, 0)).1 ∧ hI h 170 i = nI (l.getD i (0, 0)).2 ∧ (l.getD i (0, 0)).1 ≤ 40 ∧ (l.getD i (0, 0)).2 ≤ 40
/-- a mark as a list -/
def mkL (r : Nat → Int64) (f p : Nat) : List (Nat × Nat) := (List.range (rM r f p)).map (fun i => (rA r f p i, rB r f p i))
abbrev pwCut : Nat → Nat → Prop := mP [35] [169, 170]
theorem cutsH_fr : ∀ (l : List (Nat × Nat)) (h : mH) (c : Nat), mFr pwCut h (cutsH h c l)
  | [], h, c => mFr.rf
  | q :: r, h, c => by
    refine mFr.tr ?_ (cutsH_fr r (cutH h c q.1 q.2) (c + 1))
    exact ((mFr.rf.sI _ (Or.inr (by decide))).sI _ (Or.inr (by decide))).sI _ (Or.inl ⟨rfl, by decide⟩)
theorem cutsH_I : ∀ (l : List (Nat × Nat)) (h : mH) (c : Nat), hI h 153 35 = nI c → hI (cutsH h c l) 153 35 = nI (c + l.length) ∧ (∀ j, j < c → hI (cutsH h c l) 169 j = hI h 169 j ∧ hI (cutsH h c l) 170 j = hI h 170 j) ∧ ∀ i, i < l.length → hI (cutsH h c l) 169 (c + i) = nI (l.getD i (0, 0)).1 ∧ hI (cutsH h c l) 170 (c + i) = nI (l.getD i (0, 0)).2
  | [], h, c, hc => ⟨hc, fun _ _ => ⟨rfl, rfl⟩, fun i hi => absurd hi (Nat.not_lt_zero _)⟩
  | q :: r, h, c, hc => by
    obtain ⟨h1, h2, h3⟩ := cutsH_I r (cutH h c q.1 q.2) (c + 1) rfl
    have e1 : ∀ j, hI (cutH h c q.1 q.2) 169 j = if j = c then nI q.1 else hI h 169 j := by
      intro j
      unfold cutH
      rw [hI_sI, if_neg (by omega), hI_sI, if_neg (by omega), hI_sI]
      by_cases e : j = c
      · rw [if_pos ⟨rfl, e⟩, if_pos e]
      · rw [if_neg (fun z => e z.2), if_neg e]
    have e2 : ∀ j, hI (cutH h c q.1 q.2) 170 j = if j = c then nI q.2 else hI h 170 j := by
      intro j
      unfold cutH
      rw [hI_sI, if_neg (by omega), hI_sI]
      by_cases e : j = c
      · rw [if_pos ⟨rfl, e⟩, if_pos e]
      · rw [if_neg (fun z => e z.2), if_neg e, hI_sI, if_neg (by omega)]
    refine ⟨?_, ?_, ?_⟩
    · show hI (cutsH (cutH h c q.1 q.2) (c + 1) r) 153 35 = _
      rw [h1, List.length_cons, show c + 1 + r.length = c + (r.length + 1) by omega]
    · intro j hj
      obtain ⟨g1, g2⟩ := h2 j (by omega)
      refine ⟨g1.trans ?_, g2.trans ?_⟩
      · rw [e1, if_neg (by omega)]
      · rw [e2, if_neg (by omega)]
    · intro i hi
      cases i with
      | zero =>
        obtain ⟨g1, g2⟩ := h2 c (by omega)
        rw [e1, if_pos rfl] at g1
        rw [e2, if_pos rfl] at g2
        exact ⟨g1, g2⟩
      | succ i =>
        have := h3 i (by rw [List.length_cons] at hi; omega)
        rw [show c + 1 + i = c + (i + 1) by omega] at this
        exact this
theorem cut1_some {P : Int32 → Nat → Bool} {a b : Nat} {far near sec stop : Int32} {x y : Nat} (hab : a ≤ b) (h : cut1 P a b far near sec stop = some (x, y)) : a ≤ x ∧ x < y ∧ y ≤ b := by
  unfold cut1 at h
  obtain ⟨k, hk, h⟩ := Option.bind_eq_some_iff.mp h
  obtain ⟨k2, hk2, h⟩ := Option.bind_eq_some_iff.mp h
  have h1 : a ≤ k ∧ k ≤ b := by
    split at hk
    · cases hk
      exact ⟨Nat.le_refl _, hab⟩
    · obtain ⟨j, hj, rfl⟩ := Option.map_eq_some_iff.mp hk
      have := fst1_some hj
      omega
  have h2 : k ≤ k2 := by
    unfold bhN at hk2
    split at hk2
    · cases hk2
      exact Nat.le_refl _
    · split at hk2
      · obtain ⟨j, hj, rfl⟩ := Option.map_eq_some_iff.mp hk2
        have := fst1_some hj
        omega
      · obtain ⟨j, hj, rfl⟩ := Option.map_eq_some_iff.mp hk2
        have := fst1_some hj
        omega
  split at h
  · rename_i hlt
    obtain ⟨e, he, heq⟩ := Option.map_eq_some_iff.mp h
    cases heq
    split at he
    · cases he
      omega
    · have := fst1_some he
      omega
  · cases h
theorem cutL_ok {P : Int32 → Nat → Bool} {b : Nat} {far near sec stop : Int32} : ∀ (n a : Nat), a ≤ b → (cutL P b far near sec stop n a).length ≤ n ∧ ∀ q ∈ cutL P b far near sec stop n a, a ≤ q.1 ∧ q.1 < q.2 ∧ q.2 ≤ b
  | 0, a, _ => ⟨Nat.le_refl _, fun q hq => absurd hq List.not_mem_nil⟩
  | n + 1, a, hab => by
    unfold cutL
    cases hc : cut1 P a b far near sec stop with
    | none => exact ⟨Nat.zero_le _, fun q hq => absurd hq List.not_mem_nil⟩
    | some q =>
      obtain ⟨x, y⟩ := q
      have h1 := cut1_some hab hc
      obtain ⟨g1, g2⟩ := cutL_ok (P := P) (far := far) (near := near) (sec := sec) (stop := stop) n y h1.2.2
      refine ⟨Nat.succ_le_succ g1, fun q hq => ?_⟩
      rcases List.mem_cons.mp hq with rfl | hq
      · exact h1
      · have := g2 q hq
        show a ≤ q.1 ∧ _
        omega
theorem cutsH_ok {h : mH} {P : Int32 → Nat → Bool} {n a b : Nat} {far near sec stop : Int32} (hn : n ≤ 8) (hab : a ≤ b) (hb : b ≤ 40) : cutsOK (cutsH (sI h 153 35 (nI 0)) 0 (cutL P b far near sec stop n a)) (cutL P b far near sec stop n a) := by
  obtain ⟨g1, g2⟩ := cutL_ok (P := P) (b := b) (far := far) (near := near) (sec := sec) (stop := stop) n a hab
  obtain ⟨h1, -, h3⟩ := cutsH_I (cutL P b far near sec stop n a) (sI h 153 35 (nI 0)) 0 rfl
  refine ⟨by rw [h1, Nat.zero_add], by omega, fun i hi => ?_⟩
  have := h3 i hi
  rw [Nat.zero_add] at this
  have hm : (cutL P b far near sec stop n a).getD i (0, 0) ∈ cutL P b far near sec stop n a := by
    rw [List.getD_eq_getElem?_getD, List.getElem?_eq_getElem hi]
    exact List.getElem_mem hi
  have hb2 := g2 _ hm
  exact ⟨this.1, this.2, by omega, by omega⟩
section RulesV
variable {M : mM} {fr lo pc pc1 t : Nat} {ls ls1 : List (Option Value)} {st : List Value} {h : mH} {Q : Option Value → mH → Prop}
theorem wp_getIV {a ci k idx : Nat} {v : Int32} (hd : At M.2.1 pc (.getfield idx) 3 pc1) (hf : mFl M.1.cls idx ci k) (ht : mTk (mTy ci k) = 0) (ho : hO h a ci) (hv : hI h a k = v) (k9 : Wp M fr lo pc1 ls (.int v :: st) h Q) : Wp M fr lo pc ls (.ref a :: st) h Q := by
  subst hv
  exact wp_getI hd hf ht ho k9
theorem wp_getLV {a ci k idx : Nat} {v : Int64} (hd : At M.2.1 pc (.getfield idx) 3 pc1) (hf : mFl M.1.cls idx ci k) (ht : mTk (mTy ci k) = 1) (ho : hO h a ci) (hv : hL h a k = v) (k9 : Wp M fr lo pc1 ls (.long v :: st) h Q) : Wp M fr lo pc ls (.ref a :: st) h Q := by
  subst hv
  exact wp_getL hd hf ht ho k9
theorem wp_ialdV {a n j : Nat} {i : Int32} {v : Int32} (hd : At M.2.1 pc (.iaload) 1 pc1) (ha : hA h a 14 n) (e : i = nI j) (hi : inN j n) (hv : hI h a j = v) (k9 : Wp M fr lo pc1 ls (.int v :: st) h Q) : Wp M fr lo pc ls (.int i :: .ref a :: st) h Q := by
  subst hv
  exact wp_ialdN hd ha e hi k9
theorem wp_laldV {a n j : Nat} {i : Int32} {v : Int64} (hd : At M.2.1 pc (.laload) 1 pc1) (ha : hA h a 15 n) (e : i = nI j) (hi : inN j n) (hv : hL h a j = v) (k9 : Wp M fr lo pc1 ls (.long v :: st) h Q) : Wp M fr lo pc ls (.int i :: .ref a :: st) h Q := by
  subst hv
  exact wp_laldN hd ha e hi k9
theorem wp_baldV {a n j : Nat} {i : Int32} {v : Int32} (hd : At M.2.1 pc (.baload) 1 pc1) (ha : hA h a 13 n) (e : i = nI j) (hi : inN j n) (hv : hI h a j = v) (k9 : Wp M fr lo pc1 ls (.int v :: st) h Q) : Wp M fr lo pc ls (.int i :: .ref a :: st) h Q := by
  subst hv
  exact wp_baldN hd ha e hi k9
theorem wp_zaldV {a n j : Nat} {i : Int32} {v : Int32} (hd : At M.2.1 pc (.baload) 1 pc1) (ha : hA h a 16 n) (e : i = nI j) (hi : inN j n) (hv : hI h a j = v) (k9 : Wp M fr lo pc1 ls (.int v :: st) h Q) : Wp M fr lo pc ls (.int i :: .ref a :: st) h Q := by
  subst hv
  exact wp_zaldN hd ha e hi k9
end RulesV
/-- rules, items, shapes that are learnt -/
def lrN (r : Nat → Int64) (f : Nat) : Nat := nOf (r (655 + 70 * f + 1))
def lrI (r : Nat → Int64) (f k w : Nat) : Int32 := (r (655 + 70 * f + 2 + 4 * k + w)).toInt32
def lrS (r : Nat → Int64) (f w : Nat) : Nat := nOf (r (655 + 70 * f + 26 + w))
/-- a word's kind by its last byte -/
def kdL (w : Int64) : Nat := if nI 97 ≤ (w &&& 255).toInt32 ∧ (w &&& 255).toInt32 ≤ nI 122 then 0 else if nI 48 ≤ (w &&& 255).toInt32 ∧ (w &&& 255).toInt32 ≤ nI 57 then 1 else 2
def goodW (w : Int64) : Prop := 0 < w.toInt ∧ kd w = kdL w
/-- the model's memory with the row now, the fields, parents, which come again -/
def mC (h : mH) (r : Nat → Int64) (F : Nat) (pa my : Nat → Int32) : Prop := mS h ∧ hL h 162 = r ∧ hI h 153 21 = nI F ∧ hI h 159 = pa ∧ hI h 161 = my
theorem mC.fr {r : Nat → Int64} {F : Nat} {pa my : Nat → Int32} {Fs A : List Nat} {h h1 : mH} (c : mC h r F pa my) (a : mFr (mP Fs A) h h1) (q1 : 21 ∉ Fs) (q2 : 162 ∉ A) (q3 : 159 ∉ A) (q4 : 161 ∉ A) (q5 : 153 ∉ A) : mC h1 r F pa my :=
  ⟨a.s c.1, (a.Lr (by decide) q2).trans c.2.1, (a.I (fun q => q.elim (fun z => q1 z.2) q5)).trans c.2.2.1, (a.Ir (by decide) q3).trans c.2.2.2.1, (a.Ir (by decide) q4).trans c.2.2.2.2⟩
/-- a state that can be -/
def sOK (r : Nat → Int64) (F : Nat) (pa my : Nat → Int32) : Prop := (WF r) ∧ (F ≤ 4) ∧ (∀ f, f < F → pa f = -1 ∨ ∃ g, g < f ∧ pa f = nI g ∧ my g = 0) ∧ (∀ f, f < 4 → my f = 0 ∨ my f = 1) ∧ (∀ f p i, f < 4 → p < 6 → i < 8 → rA r f p i ≤ rB r f p i ∧ rB r f p i ≤ rT r p) ∧ (∀ f p, f < 4 → p < 6 → (F ≤ f ∨ rP r ≤ p) → rM r f p = 0) ∧ (∀ f p i, f < 4 → p < 6 → i < 8 → rM r f p ≤ i → rA r f p i = 0 ∧ rB r f p i = 0) ∧ (∀ f p i, f < 4 → p < 6 → i < rM r f p → rA r f p i < rB r f p i ∧ (i + 1 < rM r f p → rB r f p i ≤ rA r f p (i + 1))) ∧ (∀ f p g, f < F → p < 6 → 0 < rM r f p → pa f = nI g → g < 4 → 0 < rM r g p ∧ rA r g p 0 ≤ rA r f p 0 ∧ rB r f p (rM r f p - 1) ≤ rB r g p 0) ∧ (∀ p, p < 6 → rP r ≤ p → rT r p = 0) ∧ (∀ p k, p < rP r → k < rT r p → goodW (rW r p k)) ∧ (∀ p k, p < 6 → k < 40 → rT r p ≤ k → rW r p k = 0) ∧ (∀ f, f < 4 → r (655 + 70 * f) = 0 ∨ r (655 + 70 * f) = 1) ∧ (∀ f, f < 4 → r (655 + 70 * f + 1) = lN (lrN r f) ∧ lrN r f ≤ 6) ∧ (∀ f k w, f < 4 → k < lrN r f → w < 4 → lrI r f k w = -1 ∨ ∃ j, j < 243 ∧ lrI r f k w = nI j) ∧ (∀ f w, f < 4 → w < 44 → r (655 + 70 * f + 26 + w) = lN (lrS r f w) ∧ lrS r f w ≤ 40) ∧ (∀ f, f < 4 → r (655 + 70 * f) = 0 → lrN r f = 0 ∧ ∀ w, w < 44 → lrS r f w = 0) ∧ (∀ f, f < 4 → r (655 + 70 * f) = 1 → f < F ∧ 0 < lrS r f 0 ∧ lrS r f 2 < 8 ∧ lrS r f 3 < 8 ∧ ∀ k, k < 40 → lrS r f (4 + k) ≤ 3)
theorem sOK.w {r : Nat → Int64} {F : Nat} {pa my : Nat → Int32} (s : sOK r F pa my) : WF r := s.1
theorem sOK.f4 {r : Nat → Int64} {F : Nat} {pa my : Nat → Int32} (s : sOK r F pa my) : F ≤ 4 := s.2.1
theorem sOK.par {r : Nat → Int64} {F : Nat} {pa my : Nat → Int32} (s : sOK r F pa my) : ∀ f, f < F → pa f = -1 ∨ ∃ g, g < f ∧ pa f = nI g ∧ my g = 0 := s.2.2.1
theorem sOK.my {r : Nat → Int64} {F : Nat} {pa my : Nat → Int32} (s : sOK r F pa my) : ∀ f, f < 4 → my f = 0 ∨ my f = 1 := s.2.2.2.1
theorem sOK.ab {r : Nat → Int64} {F : Nat} {pa my : Nat → Int32} (s : sOK r F pa my) : ∀ f p i, f < 4 → p < 6 → i < 8 → rA r f p i ≤ rB r f p i ∧ rB r f p i ≤ rT r p := s.2.2.2.2.1
theorem sOK.zM {r : Nat → Int64} {F : Nat} {pa my : Nat → Int32} (s : sOK r F pa my) : ∀ f p, f < 4 → p < 6 → (F ≤ f ∨ rP r ≤ p) → rM r f p = 0 := s.2.2.2.2.2.1
theorem sOK.zA {r : Nat → Int64} {F : Nat} {pa my : Nat → Int32} (s : sOK r F pa my) : ∀ f p i, f < 4 → p < 6 → i < 8 → rM r f p ≤ i → rA r f p i = 0 ∧ rB r f p i = 0 := s.2.2.2.2.2.2.1
theorem sOK.so {r : Nat → Int64} {F : Nat} {pa my : Nat → Int32} (s : sOK r F pa my) : ∀ f p i, f < 4 → p < 6 → i < rM r f p → rA r f p i < rB r f p i ∧ (i + 1 < rM r f p → rB r f p i ≤ rA r f p (i + 1)) := s.2.2.2.2.2.2.2.1
theorem sOK.ne {r : Nat → Int64} {F : Nat} {pa my : Nat → Int32} (s : sOK r F pa my) : ∀ f p g, f < F → p < 6 → 0 < rM r f p → pa f = nI g → g < 4 → 0 < rM r g p ∧ rA r g p 0 ≤ rA r f p 0 ∧ rB r f p (rM r f p - 1) ≤ rB r g p 0 := s.2.2.2.2.2.2.2.2.1
theorem sOK.zT {r : Nat → Int64} {F : Nat} {pa my : Nat → Int32} (s : sOK r F pa my) : ∀ p, p < 6 → rP r ≤ p → rT r p = 0 := s.2.2.2.2.2.2.2.2.2.1
theorem sOK.wd {r : Nat → Int64} {F : Nat} {pa my : Nat → Int32} (s : sOK r F pa my) : ∀ p k, p < rP r → k < rT r p → goodW (rW r p k) := s.2.2.2.2.2.2.2.2.2.2.1
theorem sOK.zW {r : Nat → Int64} {F : Nat} {pa my : Nat → Int32} (s : sOK r F pa my) : ∀ p k, p < 6 → k < 40 → rT r p ≤ k → rW r p k = 0 := s.2.2.2.2.2.2.2.2.2.2.2.1
theorem sOK.lf {r : Nat → Int64} {F : Nat} {pa my : Nat → Int32} (s : sOK r F pa my) : ∀ f, f < 4 → r (655 + 70 * f) = 0 ∨ r (655 + 70 * f) = 1 := s.2.2.2.2.2.2.2.2.2.2.2.2.1
theorem sOK.ln {r : Nat → Int64} {F : Nat} {pa my : Nat → Int32} (s : sOK r F pa my) : ∀ f, f < 4 → r (655 + 70 * f + 1) = lN (lrN r f) ∧ lrN r f ≤ 6 := s.2.2.2.2.2.2.2.2.2.2.2.2.2.1
theorem sOK.li {r : Nat → Int64} {F : Nat} {pa my : Nat → Int32} (s : sOK r F pa my) : ∀ f k w, f < 4 → k < lrN r f → w < 4 → lrI r f k w = -1 ∨ ∃ j, j < 243 ∧ lrI r f k w = nI j := s.2.2.2.2.2.2.2.2.2.2.2.2.2.2.1
theorem sOK.ls {r : Nat → Int64} {F : Nat} {pa my : Nat → Int32} (s : sOK r F pa my) : ∀ f w, f < 4 → w < 44 → r (655 + 70 * f + 26 + w) = lN (lrS r f w) ∧ lrS r f w ≤ 40 := s.2.2.2.2.2.2.2.2.2.2.2.2.2.2.2.1
theorem sOK.lz {r : Nat → Int64} {F : Nat} {pa my : Nat → Int32} (s : sOK r F pa my) : ∀ f, f < 4 → r (655 + 70 * f) = 0 → lrN r f = 0 ∧ ∀ w, w < 44 → lrS r f w = 0 := s.2.2.2.2.2.2.2.2.2.2.2.2.2.2.2.2.1
theorem sOK.l1 {r : Nat → Int64} {F : Nat} {pa my : Nat → Int32} (s : sOK r F pa my) : ∀ f, f < 4 → r (655 + 70 * f) = 1 → f < F ∧ 0 < lrS r f 0 ∧ lrS r f 2 < 8 ∧ lrS r f 3 < 8 ∧ ∀ k, k < 40 → lrS r f (4 + k) ≤ 3 := s.2.2.2.2.2.2.2.2.2.2.2.2.2.2.2.2.2
def rgA (r : Nat → Int64) (pa : Nat → Int32) (f p : Nat) : Nat := if pa f = -1 then 0 else rA r (nOfI (pa f)) p 0
def rgB (r : Nat → Int64) (pa : Nat → Int32) (f p : Nat) : Nat := if pa f = -1 then rT r p else rB r (nOfI (pa f)) p 0
theorem rg_le {r : Nat → Int64} {F : Nat} {pa my : Nat → Int32} {f p : Nat} (s : sOK r F pa my) (hf : f < F) (hp : p < 6) : rgA r pa f p ≤ rgB r pa f p ∧ rgB r pa f p ≤ rT r p ∧ rT r p ≤ 40 := by
  have hT := (s.w.2.1 p hp).2
  have h4 := s.f4
  unfold rgA rgB
  rcases s.par f hf with e | ⟨g, hg, e, _⟩
  · rw [if_pos e, if_pos e]
    omega
  · have hne : ¬ pa f = -1 := by rw [e]; exact nI_ne_m1 (by omega)
    rw [if_neg hne, if_neg hne, e, nOfI_nI (by omega)]
    have := s.ab g p 0 (by omega) hp (by decide)
    omega
theorem pX12_pages' {h : mH} {Q : Option Value → mH → Prop} {r : Nat → Int64} {F : Nat} {pa my : Nat → Int32}  (hc : mC h r F pa my) (hd : sOK r F pa my) (hq : Q (some (.int (nI (rP r)))) h) : Wp mX12_pages 0 0 0 [some (.ref 153)] [] h Q := by
  have hw := hd.w
  have e := hc.2.1
  subst e
  exact pX12_pages hc.1 hw hq
theorem pX12_tokensOf' {h : mH} {Q : Option Value → mH → Prop} {r : Nat → Int64} {F : Nat} {pa my : Nat → Int32} {p : Nat} (hc : mC h r F pa my) (hd : sOK r F pa my) (hp : p < 6) (hq : Q (some (.int (nI (rT r p)))) h) : Wp mX12_tokensOf 0 0 0 [some (.ref 153), some (.int (nI p))] [] h Q := by
  have hw := hd.w
  have e := hc.2.1
  subst e
  exact pX12_tokensOf hc.1 hw hp hq
theorem pX12_wordAt' {h : mH} {Q : Option Value → mH → Prop} {r : Nat → Int64} {F : Nat} {pa my : Nat → Int32} {p k : Nat} (hc : mC h r F pa my) (hd : sOK r F pa my) (hp : p < 6) (hk : k < 40) (hq : Q (some (.long (rW r p k))) h) : Wp mX12_wordAt 0 0 0 [some (.ref 153), some (.int (nI p)), some (.int (nI k))] [] h Q := by
  have hw := hd.w
  have e := hc.2.1
  subst e
  exact pX12_wordAt hc.1 hp hk hq
theorem pX12_partsOf' {h : mH} {Q : Option Value → mH → Prop} {r : Nat → Int64} {F : Nat} {pa my : Nat → Int32} {f p : Nat} (hc : mC h r F pa my) (hd : sOK r F pa my) (hf : f < 4) (hp : p < 6) (hq : Q (some (.int (nI (rM r f p)))) h) : Wp mX12_partsOf 1 21 0 [some (.ref 153), some (.int (nI f)), some (.int (nI p))] [] h Q := by
  have hw := hd.w
  have e := hc.2.1
  subst e
  exact pX12_partsOf hc.1 hw hf hp hq
theorem pX12_fromOf' {h : mH} {Q : Option Value → mH → Prop} {r : Nat → Int64} {F : Nat} {pa my : Nat → Int32} {f p i : Nat} (hc : mC h r F pa my) (hd : sOK r F pa my) (hf : f < 4) (hp : p < 6) (hi : i < 8) (hq : Q (some (.int (nI (rA r f p i)))) h) : Wp mX12_fromOf 1 21 0 [some (.ref 153), some (.int (nI f)), some (.int (nI p)), some (.int (nI i))] [] h Q := by
  have hw := hd.w
  have e := hc.2.1
  subst e
  exact pX12_fromOf hc.1 hw hf hp hi hq
theorem pX12_toOf' {h : mH} {Q : Option Value → mH → Prop} {r : Nat → Int64} {F : Nat} {pa my : Nat → Int32} {f p i : Nat} (hc : mC h r F pa my) (hd : sOK r F pa my) (hf : f < 4) (hp : p < 6) (hi : i < 8) (hq : Q (some (.int (nI (rB r f p i)))) h) : Wp mX12_toOf 1 21 0 [some (.ref 153), some (.int (nI f)), some (.int (nI p)), some (.int (nI i))] [] h Q := by
  have hw := hd.w
  have e := hc.2.1
  subst e
  exact pX12_toOf hc.1 hw hf hp hi hq
theorem pX12_examples' {h : mH} {Q : Option Value → mH → Prop} {r : Nat → Int64} {F : Nat} {pa my : Nat → Int32} {f : Nat} (hc : mC h r F pa my) (hd : sOK r F pa my) (hf : f < 4) (hq : Q (some (.int (exS r f (rP r)))) h) : Wp mX12_examples 2 43 0 [some (.ref 153), some (.int (nI f)), none, none] [] h Q := by
  have hw := hd.w
  have e := hc.2.1
  subst e
  exact pX12_examples ⟨hc.1, hw, by unfold nF; rw [hc.2.2.1, nI_toInt (by have := hd.f4; omega)]; rfl, by unfold nF; rw [hc.2.2.1, nI_toInt (by have := hd.f4; omega)]; exact hd.f4⟩ hf hq
theorem pX12_isPage' {h : mH} {Q : Option Value → mH → Prop} {r : Nat → Int64} {F : Nat} {pa my : Nat → Int32} {x : Int32} (hc : mC h r F pa my) (hd : sOK r F pa my) (ht : ∀ j, j < rP r → x = nI j → Q (some (.int (nI 1))) h) (hf : (∀ j, j < rP r → x = nI j → False) → Q (some (.int (nI 0))) h) : Wp mX12_isPage 1 22 0 [some (.ref 153), some (.int x)] [] h Q := by
  have hw := hd.w
  have e := hc.2.1
  subst e
  exact pX12_isPage ⟨hc.1, hw, by unfold nF; rw [hc.2.2.1, nI_toInt (by have := hd.f4; omega)]; rfl, by unfold nF; rw [hc.2.2.1, nI_toInt (by have := hd.f4; omega)]; exact hd.f4⟩ ht hf
theorem nF_of {h : mH} {r : Nat → Int64} {F : Nat} {pa my : Nat → Int32} (hc : mC h r F pa my) (hd : sOK r F pa my) : nF h = F := by
  unfold nF
  rw [hc.2.2.1, nI_toInt (by have := hd.f4; omega)]
  rfl
theorem mG_of {h : mH} {r : Nat → Int64} {F : Nat} {pa my : Nat → Int32} (hc : mC h r F pa my) (hd : sOK r F pa my) : mG h := ⟨hc.1, by rw [hc.2.1]; exact hd.w, by rw [nF_of hc hd]; exact hc.2.2.1, by rw [nF_of hc hd]; exact hd.f4⟩
theorem pX12_isField' {h : mH} {Q : Option Value → mH → Prop} {r : Nat → Int64} {F : Nat} {pa my : Nat → Int32} {x : Int32} (hc : mC h r F pa my) (hd : sOK r F pa my) (ht : ∀ j, j < F → x = nI j → Q (some (.int (nI 1))) h) (hf : (∀ j, j < F → x = nI j → False) → Q (some (.int (nI 0))) h) : Wp mX12_isField 1 22 0 [some (.ref 153), some (.int x)] [] h Q := by
  have hw := hd.w
  have e := hc.2.1
  subst e
  exact pX12_isField (mG_of hc hd) (by rw [nF_of hc hd]; exact ht) (by rw [nF_of hc hd]; exact hf)
theorem pX12_learntFields' {h : mH} {Q : Option Value → mH → Prop} {r : Nat → Int64} {F : Nat} {pa my : Nat → Int32}  (hc : mC h r F pa my) (hd : sOK r F pa my) (hq : Q (some (.int (leS r F))) h) : Wp mX12_learntFields 2 41 0 [some (.ref 153), none, none] [] h Q := by
  have hw := hd.w
  have e := hc.2.1
  subst e
  exact pX12_learntFields (mG_of hc hd) (by rw [nF_of hc hd]; exact hq)
theorem pX12_allParts' {h : mH} {Q : Option Value → mH → Prop} {r : Nat → Int64} {F : Nat} {pa my : Nat → Int32}  (hc : mC h r F pa my) (hd : sOK r F pa my) (hq : Q (some (.int (nI (sumF r (rP r) F)))) h) : Wp mX12_allParts 2 43 0 [some (.ref 153), none, none, none] [] h Q := by
  have hw := hd.w
  have e := hc.2.1
  subst e
  exact pX12_allParts (mG_of hc hd) (by rw [nF_of hc hd]; exact hq)
theorem pX12_isLearnt' {h : mH} {Q : Option Value → mH → Prop} {r : Nat → Int64} {F : Nat} {pa my : Nat → Int32} {f : Nat} (hc : mC h r F pa my) (hd : sOK r F pa my) (hf : f < 4) (ht : r (655 + 70 * f) = 1 → Q (some (.int (nI 1))) h) (hf0 : r (655 + 70 * f) = 0 → Q (some (.int (nI 0))) h) : Wp mX12_isLearnt 1 20 0 [some (.ref 153), some (.int (nI f))] [] h Q := by
  have hw := hd.w
  have e := hc.2.1
  subst e
  exact pX12_isLearnt hc.1 hf ht (fun q => hf0 ((hd.lf f hf).resolve_right q))
theorem pX12_learntRules' {h : mH} {Q : Option Value → mH → Prop} {r : Nat → Int64} {F : Nat} {pa my : Nat → Int32} {f : Nat} (hc : mC h r F pa my) (hd : sOK r F pa my) (hf : f < 4) (hq : Q (some (.int (nI (lrN r f)))) h) : Wp mX12_learntRules 1 20 0 [some (.ref 153), some (.int (nI f))] [] h Q := by
  have hw := hd.w
  have e := hc.2.1
  subst e
  exact pX12_learntRules hc.1 hf (by have e9 := (hd.ln f hf).1; rw [e9, lN_i]; exact hq)
theorem pX12_learntItem' {h : mH} {Q : Option Value → mH → Prop} {r : Nat → Int64} {F : Nat} {pa my : Nat → Int32} {f k w : Nat} (hc : mC h r F pa my) (hd : sOK r F pa my) (hf : f < 4) (hk : k < 6) (hw4 : w < 4) (hq : Q (some (.int (lrI r f k w))) h) : Wp mX12_learntItem 1 20 0 [some (.ref 153), some (.int (nI f)), some (.int (nI k)), some (.int (nI w))] [] h Q := by
  have hw := hd.w
  have e := hc.2.1
  subst e
  exact pX12_learntItem hc.1 hf hk hw4 hq
theorem pX12_shapeOf' {h : mH} {Q : Option Value → mH → Prop} {r : Nat → Int64} {F : Nat} {pa my : Nat → Int32} {f w : Nat} (hc : mC h r F pa my) (hd : sOK r F pa my) (hf : f < 4) (hw4 : w < 44) (hq : Q (some (.int (nI (lrS r f w)))) h) : Wp mX12_shapeOf 1 20 0 [some (.ref 153), some (.int (nI f)), some (.int (nI w))] [] h Q := by
  have hw := hd.w
  have e := hc.2.1
  subst e
  exact pX12_shapeOf hc.1 hf hw4 (by have e9 := (hd.ls f w hf hw4).1; rw [e9, lN_i]; exact hq)
