/-! ===== rows that differ in what is learnt alone; learn ===== -/
def agr (r r' : Nat → Int64) : Prop := ∀ y, y < 655 → r' y = r y
section
variable {r r' : Nat → Int64} {F : Nat} {pa my : Nat → Int32} {f p : Nat}
theorem agr.P (g : agr r r') : rP r' = rP r := congrArg nOf (g 0 (by omega))
theorem agr.T (g : agr r r') (hp : p < 6) : rT r' p = rT r p := congrArg nOf (g _ (by omega))
theorem agr.W (g : agr r r') (hp : p < 6) {k : Nat} (hk : k < 40) : rW r' p k = rW r p k := g _ (by omega)
theorem agr.M (g : agr r r') (hf : f < 4) (hp : p < 6) : rM r' f p = rM r f p := congrArg nOf (g _ (by unfold rX; omega))
theorem agr.A (g : agr r r') (hf : f < 4) (hp : p < 6) {i : Nat} (hi : i < 8) : rA r' f p i = rA r f p i := congrArg nOf (g _ (by unfold rX; omega))
theorem agr.B (g : agr r r') (hf : f < 4) (hp : p < 6) {i : Nat} (hi : i < 8) : rB r' f p i = rB r f p i := congrArg nOf (g _ (by unfold rX; omega))
theorem agr.mk (g : agr r r') (hw : WF r) (hf : f < 4) (hp : p < 6) : mkL r' f p = mkL r f p := by
  have hM := (hw.2.2 f p hf hp).1.2
  exact mkL_cg (g.M hf hp) (fun i hi => ⟨g.A hf hp (by omega), g.B hf hp (by omega)⟩)
theorem agr.tw (g : agr r r') (hw : WF r) (hp : p < 6) : rT r' p = rT r p ∧ ∀ k, k < rT r p → rW r' p k = rW r p k := ⟨g.T hp, fun k hk => g.W hp (by have := (hw.2.1 p hp).2; omega)⟩
theorem agr.uq (g : agr r r') (hw : WF r) : uqA r' = uqA r := by
  unfold uqA
  rw [g.P, tk_cg _ (fun q hq => g.tw hw (by have := hw.1.2; omega))]
theorem agr.as (g : agr r r') (hw : WF r) (hp : p < 6) {k w : Nat} (hk : k < 40) : asC r' p k w = asC r p k w := by
  unfold asC
  rw [g.W hp hk, g.uq hw]
theorem agr.eN (g : agr r r') (hf : f < 4) : ∀ n, n ≤ 6 → exN r' f n = exN r f n
  | 0, _ => rfl
  | n + 1, h => by
    show exN r' f n ||| _ = exN r f n ||| _
    rw [g.eN hf n (by omega), g.M hf (show n < 6 by omega)]
theorem agr.ex (g : agr r r') (hw : WF r) (hf : f < 4) : exE r' f = exE r f := by
  unfold exE
  rw [g.P, g.eN hf _ hw.1.2]
theorem agr.rg (g : agr r r') (s : sOK r F pa my) (hf : f < F) (hp : p < 6) : rgA r' pa f p = rgA r pa f p ∧ rgB r' pa f p = rgB r pa f p := by
  have h4 := s.f4
  unfold rgA rgB
  rcases s.par f hf with e | ⟨k, hk, e, _⟩
  · rw [if_pos e, if_pos e, if_pos e, if_pos e]
    exact ⟨rfl, g.T hp⟩
  · have hne : ¬ pa f = -1 := by rw [e]; exact nI_ne_m1 (by omega)
    rw [if_neg hne, if_neg hne, if_neg hne, if_neg hne, e, nOfI_nI (by omega)]
    exact ⟨g.A (by omega) hp (by omega), g.B (by omega) hp (by omega)⟩
theorem row_lt (but : Int32) (n j : Nat) (hn : n ≤ 40) : (rowL but n).getD j 0 < 40 := by
  rw [List.getD_eq_getElem?_getD]
  cases z : (rowL but n)[j]? with
  | none => show 0 < 40; omega
  | some v =>
    have hv : v ∈ rowL but n := List.mem_of_getElem? z
    have := List.mem_range.mp (List.mem_filter.mp hv).1
    show v < 40
    omega
theorem agr.pm (g : agr r r') (hw : WF r) (hp : p < 6) (but : Int32) : pmR r' p but = pmR r p but := by
  have e : ∀ j, rwW r' p but j = rwW r p but j := fun j => by
    unfold rwW
    rw [g.T hp, g.W hp (row_lt but _ j (hw.2.1 p hp).2)]
  funext x j
  unfold pmR
  rw [e, g.uq hw]
theorem agr.tv (g : agr r r') (s : sOK r F pa my) (hf : f < F) (hp : p < 6) (a b c d : Int32) : tryV r' pa my f p a b c d = tryV r pa my f p a b c d := by
  have h4 := s.f4
  have e : tryL r' pa my f p a b c d = tryL r pa my f p a b c d := by
    unfold tryL
    rw [g.pm s.w hp, (g.rg s hf hp).1, (g.rg s hf hp).2]
  unfold tryV
  rw [e, g.mk s.w (by omega) hp]
theorem agr.tm (g : agr r r') (s : sOK r F pa my) (hf : f < F) (S v k : Nat) : ∀ n, n ≤ 6 → tvm r' pa my f S v k n = tvm r pa my f S v k n
  | 0, _ => rfl
  | n + 1, h => by
    show tvm r' pa my f S v k n ||| _ = tvm r pa my f S v k n ||| _
    rw [g.tm s hf S v k n (by omega), show tvK r' pa my f n k = tvK r pa my f n k from g.tv s hf (show n < 6 by omega) _ _ _ _]
theorem agr.bs (g : agr r r') (s : sOK r F pa my) (hf : f < F) (hp : p < 6) {a b c x : Nat} : bS r' pa f p a b c x ↔ bS r pa f p a b c x := by
  have h4 := s.f4
  have hr := rg_le s hf hp
  unfold bS
  rw [g.B (by omega) hp (by omega), (g.rg s hf hp).2]
  constructor
  · rintro (e | ⟨h1, w, hw, e⟩)
    · exact Or.inl e
    · rw [g.as s.w hp (by omega)] at e; exact Or.inr ⟨h1, w, hw, e⟩
  · rintro (e | ⟨h1, w, hw, e⟩)
    · exact Or.inl e
    · exact Or.inr ⟨h1, w, hw, by rw [g.as s.w hp (by omega)]; exact e⟩
theorem agr.bf (g : agr r r') (s : sOK r F pa my) (hf : f < F) (hp : p < 6) {e b c x : Nat} (he : e ≤ 40) : bF r' pa f p e b c x ↔ bF r pa f p e b c x := by
  unfold bF
  rw [g.bs s hf hp, (g.rg s hf hp).1]
  constructor
  · rintro (z | ⟨k, h1, h2, w, hw, z⟩)
    · exact Or.inl z
    · rw [g.as s.w hp (by omega), g.bs s hf hp] at z; exact Or.inr ⟨k, h1, h2, w, hw, z⟩
  · rintro (z | ⟨k, h1, h2, w, hw, z⟩)
    · exact Or.inl z
    · exact Or.inr ⟨k, h1, h2, w, hw, by rw [g.as s.w hp (by omega), g.bs s hf hp]; exact z⟩
theorem agr.bn (g : agr r r') (s : sOK r F pa my) (hf : f < F) (hp : p < 6) {x : Nat} : bNr r' pa f p x ↔ bNr r pa f p x := by
  have h4 := s.f4
  have hab := s.ab f p 0 (by omega) hp (by omega)
  have hT := (s.w.2.1 p hp).2
  unfold bNr
  rw [g.A (by omega) hp (by omega), (g.rg s hf hp).1, g.bf s hf hp (by omega)]
  constructor
  · rintro (z | ⟨h1, w, hw, z⟩ | ⟨h1, w, hw, z⟩)
    · exact Or.inl z
    · rw [g.as s.w hp (by omega), g.bf s hf hp (by omega)] at z; exact Or.inr (Or.inl ⟨h1, w, hw, z⟩)
    · rw [g.as s.w hp (by omega), g.as s.w hp (by omega), g.bf s hf hp (by omega)] at z; exact Or.inr (Or.inr ⟨h1, w, hw, z⟩)
  · rintro (z | ⟨h1, w, hw, z⟩ | ⟨h1, w, hw, z⟩)
    · exact Or.inl z
    · exact Or.inr (Or.inl ⟨h1, w, hw, by rw [g.as s.w hp (by omega), g.bf s hf hp (by omega)]; exact z⟩)
    · exact Or.inr (Or.inr ⟨h1, w, hw, by rw [g.as s.w hp (by omega), g.as s.w hp (by omega), g.bf s hf hp (by omega)]; exact z⟩)
theorem agr.ru (g : agr r r') (s : sOK r F pa my) (hf : f < F) {c : Nat} {K O : Nat → Nat} (h : ruS r pa f c K O) : ruS r' pa f c K O := by
  have h4 := s.f4
  have h6 := s.w.1.2
  have ee := g.ex s.w (show f < 4 by omega)
  have bb : ∀ p k, (exE r f).testBit p = true → (bNr r' pa f p k ↔ bNr r pa f p k) := fun p k z => g.bn s hf (by have := (exE_tb z).1; omega)
  obtain ⟨h1, h2, h3, h5⟩ := h
  unfold ruS
  rw [ee]
  refine ⟨h1, fun i hi p => (h2 i hi p).trans ⟨fun z => ⟨z.1, (bb p _ z.1).mpr z.2⟩, fun z => ⟨z.1, (bb p _ z.1).mp z.2⟩⟩, fun p k z1 z2 => h3 p k z1 ((bb p k z1).mp z2), fun i hi => ?_⟩
  obtain ⟨p, z1, z2⟩ := h5 i hi
  exact ⟨p, z1, (bb p _ z1).mpr z2⟩
theorem tbW.cg {ow : Nat → Nat} {h : mH} {e w : Nat} (g : tbW ow h r pa my F e w) (s : sOK r F pa my) (a : agr r r') : tbW ow h r' pa my F e w := by
  obtain ⟨n, m, h2, h3⟩ := g
  refine ⟨n, m, fun f hf => ?_, h3⟩
  obtain ⟨a2, a3, a4, a5, a6, a7, tf, tc, t2, t3, t4, t5, t6, t7, tp, z, hb, hz⟩ := h2 f hf
  refine ⟨a2, a3, a4, a5, a6, a7, tf, tc, t2, t3, t4, t5, t6, t7, tp, z, hb, hz.imp id (fun ⟨b1, b2, c, K, O, c1, c2, c3, c4⟩ => ⟨b1, b2, c, K, O, c1, c2, fun i hi => ?_, a.ru s b2 c4⟩)⟩
  rw [a.ex s.w hf, a.tm s b2 _ _ _ 6 (Nat.le_refl _), a.tm s b2 _ _ _ 6 (Nat.le_refl _)]
  exact c3 i hi
end
theorem ln_agr {r : Nat → Int64} {f : Nat} {L : List Nat} (hL : L.length ≤ 6) : agr r (lnS r f L 44) := fun y hy => lnS_out hL (Nat.le_refl _) (by omega)
theorem lnR.new {ow : Nat → Nat} {h : mH} {q f : Nat} {r : Nat → Int64} {L : List Nat} (g : lnN ow h q 0 r f L) (hL : L.length ≤ 6) (hc : ∀ k, k < L.length → cod (L.getD k 0)) (hv : ∀ w, shV r f w ≤ 40) : lnR ow h q (lnS r f L 44) f := by
  obtain ⟨nr, np, z, h1, h2⟩ := g
  obtain ⟨_, i2, i3, i4⟩ := lnS_in (r := r) (f := f) hL
  have eN : lrN (lnS r f L 44) f = L.length := by
    unfold lrN
    rw [i2]
    exact nOf_l (by omega)
  have eS : ∀ w, w < 44 → lrS (lnS r f L 44) f w = shV r f w := fun w hw => by
    unfold lrS
    rw [i4 w hw]
    exact nOf_l (by have := hv w; omega)
  refine ⟨nr, np, by rw [eN, eS 0 (by omega), eS 1 (by omega), eS 2 (by omega), eS 3 (by omega)]; exact z, fun k hk => ?_, fun j hj => ?_⟩
  · rw [eN] at hk
    refine ⟨L.getD k 0, hc k hk, h1 k hk, fun w hw => ?_⟩
    unfold lrI
    rw [i3 k w hk hw, i64_32]
  · rw [eS 0 (by omega)] at hj
    have := hv 0
    rw [eS (4 + j) (by omega)]
    exact h2 j hj
theorem stX.lrn {ow : Nat → Nat} {h h' : mH} {S : List Nat} {u9 a ρ F f q : Nat} {r : Nat → Int64} {L : List Nat} {pa my : Nat → Int32} {sp sl : Nat → Option Nat} {ss se : Nat → Int64} {sc : Int32} (g : stX ow h a ρ r) (hd : sOK r F pa my) (z : zS ow h a ρ sp sl ss se sc) (f9 : cFr S u9 ow h ow h') (h0 : 0 ∉ S) (z' : zS ow h' a ρ sp (upN sl f (some q)) ss se sc) (hf : f < 4) (hL : L.length ≤ 6) (ln : lnR ow h' q (lnS r f L 44) f) : stX ow h' a ρ (lnS r f L 44) := by
  obtain ⟨⟨sp0, sl0, ss0, se0, z0, hp, hl, hb⟩, hn⟩ := g
  have hP6 := hd.w.1.2
  have e0 : sp0 = sp := z0.c0.symm.trans z.c0
  have e1 : sl0 = sl := z0.c1.symm.trans z.c1
  have e2 : ss0 = ss := z0.c2.symm.trans z.c2
  have e3 : se0 = se := z0.c3.symm.trans z.c3
  have e4 : nI (rP r) = sc := z0.f4.symm.trans z.f4
  subst e0 e1 e2 e3 e4
  have ag := ln_agr (r := r) (f := f) hL
  have eo : ∀ k, k ≠ f → ∀ y, 655 + 70 * k ≤ y → y < 655 + 70 * k + 70 → lnS r f L 44 y = r y := fun k hk y h1 h2 => lnS_out hL (Nat.le_refl _) (by omega)
  refine ⟨⟨sp0, upN sl0 f (some q), ss0, se0, by rw [ag.P]; exact z', fun p hp9 => ?_, fun f9 hf9 => ?_, fun f9 p9 hf9 hp9 => by rw [ag.mk hd.w hf9 hp9]; exact hb f9 p9 hf9 hp9⟩, fun p hp9 hp6 => ?_⟩
  · rw [ag.P] at hp9
    obtain ⟨q, e, g⟩ := hp p hp9
    exact ⟨q, e, (g.fr f9 h0).cg (fun q hq => ag.tw hd.w (by omega))⟩
  · by_cases c : f9 = f
    · subst c
      refine ⟨fun _ => ⟨q, upN_at _ _ _, ln⟩, fun e => absurd (lnS_in hL).1 e⟩
    · rw [eo f9 c _ (Nat.le_refl _) (by omega), upN_ne c]
      refine ⟨fun e => ?_, (hl f9 hf9).2⟩
      obtain ⟨q, e, g⟩ := (hl f9 hf9).1 e
      exact ⟨q, e, (g.fr (by assumption) h0).cg (hd.ln f9 hf9).2 (hd.ls f9 0 hf9 (by omega)).2 (eo f9 c)⟩
  · rw [ag.P] at hp9
    rw [congrFun z'.c0 p, ← congrFun z0.c0 p]; exact hn p hp9 hp6
theorem lnN.fr0 {S : List Nat} {u9 : Nat} {ow ow' : Nat → Nat} {h h' : mH} {a : Nat} {r : Nat → Int64} {f : Nat} {L : List Nat} (g : lnN ow h a 0 r f L) (f9 : cFr S u9 ow h ow' h') (h0 : 0 ∉ S) : lnN ow' h' a 0 r f L := by
  obtain ⟨nr, np, z, hz⟩ := g
  exact ⟨nr, np, z.fr f9 h0, hz⟩
theorem cC.lrn {ow ow2 : Nat → Nat} {h h2 h3 h4 : mH} {F : Nat} {pa my : Nat → Int32} {fa o a u : Nat} {r : Nat → Int64} {pr : Nat → Nat → Int64} {bx : Nat → Nat → Int64} {kp tp : Nat → Int32} {t : Nat} {tf tl : Int32} {n w : Nat} {f q u2 : Nat} {L : List Nat} {sp sl : Nat → Option Nat} {ss se : Nat → Int64} {sc : Int32} {a3 a4 a5 : Nat} {yf yc : Int32} {y3 y4 : Nat → Int64} {y5 : Nat → Int32} (c : cC ow h F pa my fa o a u r pr bx kp tp t tf tl n w) (hd : sOK r F pa my) (hf : f < F) (hL : L.length ≤ 6) (hc : ∀ k, k < L.length → cod (L.getD k 0)) (hne : exE r f ≠ 0) (f2 : cFr [1, 2, 11, 12, 13, 14, 18] u2 ow h ow2 h2) (tw : tbW ow2 h2 r pa my F (7 * (20480 - n)) (w + 100)) (gg : ∃ pl gb ge gs gn gf gt, zG ow2 h2 pl gb ge gs gn gf gt) (vv : ∃ v0 v1 v2 v3 v4 vc vk vh, zV ow2 h2 v0 v1 v2 v3 v4 vc vk vh) (ln : lnN ow2 h2 q 0 r f L) (zs : zS ow2 h2 (nowA o a) (nowR o a) sp sl ss se sc) (f3 : cFr [nowR o a] 0 ow2 h2 ow2 h3) (zs3 : zS ow2 h3 (nowA o a) (nowR o a) sp (upN sl f (some q)) ss se sc) (f4 : cFr [10] 0 ow2 h3 ow2 h4) (zy : zY ow2 h4 n a3 a4 a5 (-1) yf yc y3 y4 y5) : cC ow2 h4 F pa my fa o a u (lnS r f L 44) pr bx kp tp t tf tl n (w + 100) := by
  have h4' := hd.f4
  have ag := ln_agr (r := r) (f := f) hL
  have rg2 := c.rg.fr f2 (by decide) (fun j hj => by simp; omega)
  have lnr : lnR ow2 h3 q (lnS r f L 44) f := lnR.new (ln.fr0 f3 (rnS (by first | omega | (simp only [nowR]; omega)) rn0)) hL hc (sh_all hd hf hne).2.1
  have sx := rg2.st.lrn hd zs f3 (rnS (by first | omega | (simp only [nowR]; omega)) rn0) zs3 (show f < 4 by omega) hL lnr
  have rg4 := (rg2.set c.od.1 c.od.2 f3 sx).fr f4 (by decide) (fun j hj => by simp; omega)
  have f34 : cFr [10, nowR o a] 0 ow2 h2 ow2 h4 := (f3.up (fun x hx => List.mem_cons_of_mem _ hx) (Nat.le_refl _)).tr (f4.up (fun x hx => by simp at hx ⊢; exact Or.inl hx) (Nat.le_refl _))
  have nn : ∀ {k : Nat}, k < 20 → k ≠ 10 → k ∉ [10, nowR o a] := fun h1 h2 => rnS h2 (rnS (by first | omega | (simp only [nowR]; omega)) rn0)
  have n40 : ∀ {k : Nat}, 37 ≤ k → k ∉ [10, nowR o a] := fun h1 => rnS (by omega) (rnS (by first | omega | (simp only [nowR]; omega)) rn0)
  obtain ⟨_, _, _, _, _, _, _, gg⟩ := gg
  obtain ⟨_, _, _, _, _, _, _, _, vv⟩ := vv
  obtain ⟨_, _, ⟨_, _, l1⟩, ⟨_, _, l2⟩⟩ := c.cz
  refine ⟨(c.zx.fr f2 (by decide)).fr f34 (nn (by decide) (by decide)), (c.zh.fr f2 (by decide)).fr f34 (nn (by decide) (by decide)), (c.kb.fr f2 (by decide) (by decide)).fr f34 (nn (by decide) (by decide)) (nn (by decide) (by decide)), (c.fl.fr f2 (by decide)).fr f34 (nn (by decide) (by decide)), rg4, c.od, (c.bxx.fr f2 (by decide) (by decide) (by decide) (by decide)).fr f34 (nn (by decide) (by decide)) (nn (by decide) (by decide)) (n40 (by decide)) (n40 (by decide)), (c.tpp.fr f2 (by decide)).fr f34 (nn (by decide) (by decide)), (c.rd.fr f2 (by decide)).fr f34 (nn (by decide) (by decide)), ⟨⟨_, _, _, _, _, _, _, gg.fr f34 (nn (by decide) (by decide))⟩, ⟨_, _, _, _, _, _, _, _, vv.fr f34 (nn (by decide) (by decide))⟩, ⟨_, _, (l1.fr f2 (by decide)).fr f34 (nn (by decide) (by decide))⟩, ⟨_, _, (l2.fr f2 (by decide)).fr f34 (nn (by decide) (by decide))⟩⟩, ?_, c.ti.1, Or.inl ⟨_, _, _, _, _, _, _, _, zy⟩⟩
  exact (tw.fr f34 (fun j hj => nn (by omega) (by omega))).cg hd ag
theorem eS.w0 {ow : Nat → Nat} {h : mH} {F fa o1 d1 u1 : Nat} {pa my : Nat → Int32} {r : Nat → Int64} (e : eS ow h F pa my r fa o1 d1 u1) : ow 0 = 7 := e.1.choose_spec.choose_spec.choose_spec.w
set_option maxRecDepth 20000 in
theorem pX11_keepLearnt {h : mH} {Q : Option Value → mH → Prop} {ow : Nat → Nat} {F fa o1 d1 u1 : Nat} {pa my : Nat → Int32} {r : Nat → Int64} {q f n a3 a4 a5 : Nat} {L : List Nat} {sp sl : Nat → Option Nat} {ss se : Nat → Int64} {sc : Int32} {yp yf yc : Int32} {y3 y4 : Nat → Int64} {y5 : Nat → Int32} (e9 : eS ow h F pa my r fa o1 d1 u1) (zs : zS ow h (nowA o1 d1) (nowR o1 d1) sp sl ss se sc) (zy : zY ow h n a3 a4 a5 yp yf yc y3 y4 y5) (ln : lnN ow h q 0 r f L) (hf : f < 4) (hq : ∀ h1 h', cFr [nowR o1 d1] 0 ow h ow h1 → zS ow h1 (nowA o1 d1) (nowR o1 d1) sp (upN sl f (some q)) ss se sc → cFr [10] 0 ow h1 ow h' → zY ow h' n a3 a4 a5 (-1) (-1) yc y3 y4 y5 → Q (some (.int (nI L.length))) h') : Wp mX11_keepLearnt 3 63 0 [some (.ref 0), some (.int (nI f)), some (.ref q)] [] h Q := by
  obtain ⟨nr, np, zn, _⟩ := ln
  refine wp_aload_n dX11_keepLearnt_0 rfl rfl ?_
  refine wp_getR dX11_keepLearnt_1 lX11_34 rfl e9.oo e9.r6 ?_
  refine wp_cV0 2 43 [some _] dX11_keepLearnt_4 tX3_now rfl (by decide) nX3_now vX3_now lX11_101 ⟨by decide, by decide⟩ (Nat.le_of_ble_eq_true rfl) e9.hh.o (Nat.le_of_ble_eq_true rfl) rfl ?_
  refine pX3_now e9.hh e9.kb e9.od.1 e9.od.2 ?_
  intro _ _
  refine wp_getR dX11_keepLearnt_7 lX11_143 rfl zs.o zs.r1 ?_
  refine wp_iload_n dX11_keepLearnt_10 rfl rfl ?_
  refine wp_aload_n dX11_keepLearnt_11 rfl rfl ?_
  refine wp_aastJ dX11_keepLearnt_12 zs.a1 (by decide) (by decide) rfl ⟨by omega, by omega⟩ zn.o ?_
  refine zs.w1 (fun hh1 f1 zs_1 => ?_)
  have zy_1 := zy.fr f1 (rnS (by first | omega | (simp only [nowR]; omega)) rn0)
  have zn_1 := zn.fr f1 (rnS (by first | omega | (simp only [nowR]; omega)) rn0)
  refine wp_aload_n dX11_keepLearnt_13 rfl rfl ?_
  refine wp_getR dX11_keepLearnt_14 lX11_67 rfl (f1.o e9.oo) ((congrFun (f1.s e9.oo.1 e9.w0 (rnS (by first | omega | (simp only [nowR]; omega)) rn0)).2.2 11).trans e9.r11) ?_
  refine wp_cV0 0 0 [some _] dX11_keepLearnt_17 tX10_forget rfl (by decide) nX10_forget vX10_forget lX11_246 ⟨by decide, by decide⟩ (Nat.le_of_ble_eq_true rfl) zy_1.o (Nat.le_of_ble_eq_true rfl) rfl ?_
  refine pX10_forget zy_1 (fun hh2 f2 zyq => ?_)
  intro _ _
  have znq := zn_1.fr f2 (by decide)
  refine wp_aload_n dX11_keepLearnt_20 rfl rfl ?_
  refine wp_getR dX11_keepLearnt_21 lX11_158 rfl znq.o znq.r0 ?_
  refine wp_alen dX11_keepLearnt_24 znq.a0 (by decide) (by decide) rfl ?_
  refine wp_ireturn dX11_keepLearnt_25 rfl ?_
  exact hq _ _ f1 zs_1 f2 zyq
theorem cC.beg {ow : Nat → Nat} {h h' : mH} {F : Nat} {pa my : Nat → Int32} {fa o a u : Nat} {r : Nat → Int64} {pr : Nat → Nat → Int64} {bx : Nat → Nat → Int64} {kp tp : Nat → Int32} {t : Nat} {tf tl : Int32} {n w : Nat} {o' a' u' : Nat} {pr' : Nat → Nat → Int64} (c : cC ow h F pa my fa o a u r pr bx kp tp t tf tl n w) (f : cFr [8, 20, 21, 22, 23, 24, 25, 26, 27, 28, 29, 30, 31, 32, 33, 34, 35, 36] 0 ow h ow h') (zh : zH ow h' (nI o') (nI a') (nI u')) (rg : rgR ow h' o' a' u' r pr') (hb : o' < 17 ∧ a' + u' ≤ 16) : cC ow h' F pa my fa o' a' u' r pr' bx kp tp t tf tl n w :=
  ⟨c.zx.fr f (by decide), zh, c.kb.fr f (by decide) (by decide), c.fl.fr f (by decide), rg, hb, c.bxx.fr f (by decide) (by decide) (by decide) (by decide), c.tpp.fr f (by decide), c.rd.fr f (by decide), c.cz.fr f (by decide) (by decide) (by decide) (by decide), c.tw.fr f (fun j hj => by simp; omega), c.ti.fr f (by decide)⟩
theorem tyI.zy {ow : Nat → Nat} {h : mH} {r : Nat → Int64} {pa my : Nat → Int32} {F n : Nat} (g : tyI ow h r pa my F n) : ∃ a3 a4 a5 yp yf yc y3 y4 y5, zY ow h n a3 a4 a5 yp yf yc y3 y4 y5 := by
  obtain ⟨hn, h3⟩ := g
  rcases h3 with ⟨a3, a4, a5, yf, yc, y3, y4, y5, z⟩ | ⟨p, f, _, _, a3, a4, a5, y3, y4, y5, N, OL, V, FK, T, z, _⟩
  · exact ⟨_, _, _, _, _, _, _, _, _, z⟩
  · exact ⟨_, _, _, _, _, _, _, _, _, z⟩
theorem ring_lrn (k : Nat) : ∀ x ∈ [20 + k % 17], x ∈ [1, 2, 8, 10, 11, 12, 13, 14, 18, 20, 21, 22, 23, 24, 25, 26, 27, 28, 29, 30, 31, 32, 33, 34, 35, 36] := fun x hx => by
  have := Nat.mod_lt k (show 0 < 17 by decide)
  simp at hx ⊢
  omega
theorem gd_mem {L : List Nat} {k : Nat} (hk : k < L.length) : L.getD k 0 ∈ L := by
  rw [List.getD_eq_getElem?_getD, List.getElem?_eq_getElem hk]
  exact List.getElem_mem hk
set_option maxRecDepth 20000 in
theorem pX11_learn {h : mH} {Q : Option Value → mH → Prop} {ow : Nat → Nat} {F : Nat} {pa my : Nat → Int32} {fa o a u : Nat} {r : Nat → Int64} {pr : Nat → Nat → Int64} {bx : Nat → Nat → Int64} {kp tp : Nat → Int32} {t : Nat} {tf tl : Int32} {n w : Nat} {x : Int32} (c : cC ow h F pa my fa o a u r pr bx kp tp t tf tl n w) (hd : sOK r F pa my) (hw : w + 400 ≤ 8000000) (h0 : (ix x F = none ∨ ∃ f, ix x F = some f ∧ exE r f = 0) → Q (some (.int (-1))) h) (hq : ∀ f L hop, ix x F = some f → exE r f ≠ 0 → coP r pa my f (exE r f) L hop → L.length ≤ 6 → ∀ h' ow' o' u9, cFr [1, 2, 8, 10, 11, 12, 13, 14, 18, 20, 21, 22, 23, 24, 25, 26, 27, 28, 29, 30, 31, 32, 33, 34, 35, 36] u9 ow h ow' h' → cC ow' h' F pa my fa o' (actN a) 0 (lnS r f L 44) (actP pr r a) bx kp tp t tf tl n (w + 100) → Q (some (.int (nI L.length))) h') : Wp mX11_learn 8 208 0 [some (.ref 0), some (.int x)] [] h Q := by
  have hP6 := hd.w.1.2
  have hF4 := hd.f4
  have e9 := c.e9
  refine wp_aload_n dX11_learn_0 rfl rfl ?_
  refine wp_getR dX11_learn_1 lX11_20 rfl e9.oo e9.f4 ?_
  refine wp_iload_n dX11_learn_4 rfl rfl ?_
  refine wp_cV1 0 0 [some _, some _] dX11_learn_5 tX1_has rfl (by decide) nX1_has vX1_has lX11_139 ⟨by decide, by decide⟩ (Nat.le_of_ble_eq_true rfl) e9.fl.oo (Nat.le_of_ble_eq_true rfl) rfl ?_
  refine pX1_has e9.fl hF4 (fun f1 hf1 ef1 => ?_) (fun xn1 => ?_)
  · subst ef1
    intro _ _
    refine wp_if_eq dX11_learn_8 (fun q => absurd q (by decide +kernel)) (fun _ => ?_)
    refine wp_aload_n dX11_learn_11 rfl rfl ?_
    refine wp_getR dX11_learn_12 lX11_34 rfl e9.oo e9.r6 ?_
    refine wp_cV0 2 43 [some _] dX11_learn_15 tX3_now rfl (by decide) nX3_now vX3_now lX11_101 ⟨by decide, by decide⟩ (Nat.le_of_ble_eq_true rfl) e9.hh.o (Nat.le_of_ble_eq_true rfl) rfl ?_
    refine pX3_now e9.hh e9.kb e9.od.1 e9.od.2 ?_
    intro _ _
    refine wp_iload_n dX11_learn_18 rfl rfl ?_
    refine wp_cV1 2 43 [some _, some _, none, none] dX11_learn_19 tX8_examplesOf rfl (by decide) nX8_examplesOf vX8_examplesOf lX11_154 ⟨by decide, by decide⟩ (Nat.le_of_ble_eq_true rfl) e9.st.oo (Nat.le_of_ble_eq_true rfl) rfl ?_
    refine pX8_examplesOf e9.st hd (by omega) ?_
    intro _ _
    refine wp_if_neN dX11_learn_22 rfl (by have := exE_lt (f := f1) hd; omega) (fun c2 => ?_) (fun c2 => ?_)
    · refine wp_aload_n dX11_learn_27 rfl rfl ?_
      refine wp_getR dX11_learn_28 lX11_34 rfl e9.oo e9.r6 ?_
      refine wp_cV0 3 63 [some _, none, none] dX11_learn_31 tX3_begin rfl (by decide) nX3_begin vX3_begin lX11_127 ⟨by decide, by decide⟩ (Nat.le_of_ble_eq_true rfl) e9.hh.o (Nat.le_of_ble_eq_true rfl) rfl ?_
      refine pX3_begin c.zh c.kb c.rg c.od.1 c.od.2 hP6 (fun hh1 o1 ho1 fB zh1 rg1 => ?_)
      intro _ _
      have c1 := c.beg fB zh1 rg1 ⟨ho1, by have := c.od.2; unfold actN; split <;> omega⟩
      obtain ⟨⟨_, _, _, _, _, _, _, zg1⟩, ⟨_, _, _, _, _, _, _, _, zv1⟩, _⟩ := c1.cz
      refine wp_pop dX11_learn_34 rfl ?_
      refine wp_aload_n dX11_learn_35 rfl rfl ?_
      refine wp_iload_n dX11_learn_36 rfl rfl ?_
      refine wp_aload_n dX11_learn_37 rfl rfl ?_
      refine wp_iload_n dX11_learn_38 rfl rfl ?_
      refine wp_cV1 7 185 [some _, some _, none, none] dX11_learn_39 tX11_whatIsLearntNow rfl (by decide) nX11_whatIsLearntNow vX11_whatIsLearntNow lX11_238 ⟨by decide, by decide⟩ (Nat.le_of_ble_eq_true rfl) c1.zx.o (Nat.le_of_ble_eq_true rfl) rfl ?_
      refine pX11_whatIsLearntNow c1.e9 hd zg1 c1.tw (by omega) zv1 (by omega) (by omega) (fun hh2 ow2 u2 q2 L2 hop2 f2 e2 tw2 gg2 vv2 co2 hl2 hb2 ln2 => ?_)
      intro _ _
      refine wp_cV2 3 63 [some _, some _, some _] dX11_learn_42 tX11_keepLearnt rfl (by decide) nX11_keepLearnt vX11_keepLearnt lX11_242 ⟨by decide, by decide⟩ (Nat.le_of_ble_eq_true rfl) e2.oo (Nat.le_of_ble_eq_true rfl) rfl ?_
      obtain ⟨_, _, _, _, _, _, _, _, _, zy2⟩ := (c1.ti.fr f2 (by decide)).zy
      obtain ⟨_, _, _, _, zs2, _⟩ := id e2.st
      refine pX11_keepLearnt e2 zs2 zy2 ln2 (by omega) (fun hh3 hh4 f3 zs3 f4 zy4 => ?_)
      intro _ _
      refine wp_ireturn dX11_learn_45 rfl ?_
      have hcd9 := coP_cod hd (show f1 < F by omega) (fun p z => exE_tb z) co2
      exact hq f1 L2 hop2 (ix_nI (by omega) (by omega)) (by omega) co2 hl2 _ _ _ _ (((fB.up (by decide) (Nat.le_refl _)).tr (f2.up (by decide) (Nat.le_refl _))).tr ((f3.up (ring_lrn _) (Nat.le_refl _)).tr (f4.up (by decide) (Nat.le_refl _)))) (c1.lrn hd (by omega) hl2 (fun k hk => hcd9 _ (gd_mem hk)) (by omega) f2 tw2 gg2 vv2 ln2 zs2 f3 zs3 f4 zy4)
    · refine wp_iconst (v := (-1)) dX11_learn_25 (by decide +kernel) ?_
      refine wp_ireturn dX11_learn_26 rfl ?_
      exact h0 (Or.inr ⟨f1, ix_nI (by omega) (by omega), by omega⟩)
  · intro _ _
    refine wp_if_eq dX11_learn_8 (fun _ => ?_) (fun q => absurd q (by decide +kernel))
    refine wp_iconst (v := (-1)) dX11_learn_25 (by decide +kernel) ?_
    refine wp_ireturn dX11_learn_26 rfl ?_
    exact h0 (Or.inl xn1)
