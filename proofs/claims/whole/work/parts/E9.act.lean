/-! ===== acts ===== -/
theorem hlZ.hi {r r' : Nat → Int64} (g : hlZ r) (h : ∀ y, 655 ≤ y → r' y = r y) : hlZ r' := fun f hf j hj hl => by
  have e : ∀ w, lrS r' f w = lrS r f w := fun w => congrArg nOf (h _ (by omega))
  rw [e] at hl ⊢
  exact g f hf j hj hl
theorem hlZ.zero {r : Nat → Int64} (h : ∀ y, 655 ≤ y → r y = 0) : hlZ r := fun f hf j hj hl => by
  show nOf (r _) = 0
  rw [h _ (by omega)]; rfl
theorem hlZ.ln {r : Nat → Int64} {f : Nat} {L : List Nat} (g : hlZ r) (hL : L.length ≤ 6) (hs : ∀ w, shV r f w ≤ 40) : hlZ (lnS r f L 44) := fun f' hf' j hj hl => by
  by_cases c : f' = f
  · subst c
    have e : ∀ w, w < 44 → lrS (lnS r f' L 44) f' w = shV r f' w := fun w hw => by
      show nOf (lnS r f' L 44 (655 + 70 * f' + 26 + w)) = _
      unfold lnS
      rw [if_pos (by omega), show 655 + 70 * f' + 26 + w - (655 + 70 * f' + 26) = w by omega]
      exact nOf_l (by have := hs w; omega)
    rw [e 0 (by omega)] at hl
    rw [e (4 + j) (by omega), shV_k, if_neg (by omega)]
  · have e : ∀ w, w < 44 → lrS (lnS r f L 44) f' w = lrS r f' w := fun w hw => congrArg nOf (lnS_out hL (by omega) (by omega))
    rw [e 0 (by omega)] at hl
    rw [e (4 + j) (by omega)]
    exact g f' hf' j hj hl
section OK
variable {F : Nat} {pa my : Nat → Int32} {a u : Nat} {r r' : Nat → Int64} {pr bx : Nat → Nat → Int64} {kp : Nat → Int32}
theorem okAll.act (g : okAll F pa my a u r pr bx kp) (hau : a + u ≤ 16) (g' : okRw r' F pa my) : okAll F pa my (actN a) 0 r' (actP pr r a) bx kp := by
  refine ⟨g', fun i hi => ?_, g.2.2⟩
  unfold actN at hi
  unfold actP
  by_cases c : a = 16
  · rw [if_pos c] at hi ⊢
    by_cases c1 : i < 15
    · show okRw (if i < 15 then pr (i + 1) else r) F pa my
      rw [if_pos c1]; exact g.2.1 _ (by omega)
    · show okRw (if i < 15 then pr (i + 1) else r) F pa my
      rw [if_neg c1]; exact g.1
  · rw [if_neg c] at hi ⊢
    by_cases c1 : i = a
    · show okRw (if i = a then r else pr i) F pa my
      rw [if_pos c1]; exact g.1
    · show okRw (if i = a then r else pr i) F pa my
      rw [if_neg c1]; exact g.2.1 _ (by omega)
theorem okAll.ex {a' u' i : Nat} (g : okAll F pa my a u r pr bx kp) (hi : i < a + u) (h : a' + u' = a + u) : okAll F pa my a' u' (pr i) (exP pr i r) bx kp := by
  refine ⟨g.2.1 i hi, fun k hk => ?_, g.2.2⟩
  unfold exP
  by_cases c : k = i
  · show okRw (if k = i then r else pr k) F pa my
    rw [if_pos c]; exact g.1
  · show okRw (if k = i then r else pr k) F pa my
    rw [if_neg c]; exact g.2.1 k (by omega)
theorem okAll.img {b : Nat} (g : okAll F pa my a u r pr bx kp) : okAll F pa my a u r pr (boxP bx b r) (keptP kp b) := by
  refine ⟨g.1, g.2.1, fun k hk e => ?_⟩
  by_cases c : k = b
  · rw [show boxP bx b r k = r from if_pos c]; exact g.1
  · rw [show boxP bx b r k = bx k from if_neg c]
    exact g.2.2 k hk (fun z => e ((show keptP kp b k = kp k from if_neg c).trans z))
theorem okAll.back {b : Nat} (g : okAll F pa my a u r pr bx kp) (hb : b < 2) (e : ¬ kp b = 0) : okAll F pa my 0 0 (bx b) pr bx kp := ⟨g.2.2 b hb e, fun i hi => absurd hi (Nat.not_lt_zero i), g.2.2⟩
theorem ok_mk {p f i j : Nat} (g : okRw r F pa my) (hf : f < F) (hp : p < rP r) (hj : j ≤ rT r p) (ho : okM r pa my f p i j) : okRw (mkR r f p i j) F pa my := by
  have h6 := g.1.w.1.2
  have h4 := g.1.f4
  exact ⟨sOK_mk g.1 hf hp hj ho, g.2.hi (fun y hy => mk_out ho.2.1 (by unfold rX; omega))⟩
theorem ok_um {p f : Nat} (g : okRw r F pa my) (hp : p < rP r) : okRw (umR r pa f p F) F pa my := by
  have h6 := g.1.w.1.2
  have h4 := g.1.f4
  exact ⟨sOK_um g.1 hp, g.2.hi (fun y hy => umR_at F y (fun f9 hf9 _ => by unfold rX; omega))⟩
theorem ok_ln {f hop : Nat} {L : List Nat} (g : okRw r F pa my) (hf : f < F) (hne : exE r f ≠ 0) (hL : L.length ≤ 6) (hc : coP r pa my f (exE r f) L hop) : okRw (lnS r f L 44) F pa my := ⟨sOK_ln g.1 hf hne hL hc, g.2.ln hL (sh_all g.1 hf hne).2.1⟩
theorem ok_pg {n : Nat} {tb : Nat → Int32} {N : Nat} (g : okRw r F pa my) (hb : byt tb) (hP : rP r < 6) (h : pgS tb N = .ok n) : okRw (up1 (pgK r (rP r) n (fun j => tW tb N (psT tb N 0 j)) 40) 0 (lN (rP r + 1))) F pa my := by
  obtain ⟨h1, h2, h3⟩ := pgS_ok hb h
  refine ⟨sOK_pg g.1 hP ⟨h1, h2⟩ h3, g.2.hi (fun y hy => ?_)⟩
  rw [up1_ne (by omega)]
  exact (pgK_at hP).2.2 (by omega) (by omega)
end OK
theorem tk_hi {r : Nat → Int64} {f p : Nat} {l : List (Nat × Nat)} (g : hlZ r) (hf : f < 4) (hp : p < 6) (hl : l.length ≤ 8) : hlZ (tkK r f p l l.length) := g.hi (fun y hy => tk_out hl (by unfold rX; omega))
theorem cn_f {r : Nat → Int64} {F p f : Nat} {x y : Int32} (h : cnC r F x y = some (p, f)) : f < F := by
  unfold cnC at h
  cases e1 : ix x (rP r) with
  | none => rw [e1] at h; cases h
  | some i =>
    rw [e1] at h
    cases e2 : ix y F with
    | none => rw [e2] at h; cases h
    | some j =>
      rw [e2] at h
      have h : (if r (655 + 70 * j) = 1 then some (i, j) else none) = some (p, f) := h
      split at h
      · cases h; exact (ix_some e2).1
      · cases h
theorem cn_p {r : Nat → Int64} {F p f : Nat} {x y : Int32} (h : cnC r F x y = some (p, f)) : p < rP r := by
  unfold cnC at h
  cases e1 : ix x (rP r) with
  | none => rw [e1] at h; cases h
  | some i =>
    rw [e1] at h
    cases e2 : ix y F with
    | none => rw [e2] at h; cases h
    | some j =>
      rw [e2] at h
      have h : (if r (655 + 70 * j) = 1 then some (i, j) else none) = some (p, f) := h
      split at h
      · cases h; exact (ix_some e1).1
      · cases h
theorem nIuq {a b : Nat} {x : Int32} (e1 : x = nI a) (e2 : x = nI b) (ha : a < 2147483648) (hb : b < 2147483648) : a = b := (nI_eq ha hb).mp (e1.symm.trans e2)
set_option maxRecDepth 20000 in
theorem op_mark {L : Nat} {xs : Nat → Int32} (hL : L ≤ 3584) (c : Nat) (h : mH) (a1 a2 a3 a4 : Int32) (hc : 7 * c + 7 ≤ L) (hI : inLw L xs c h) : Op2 mX11_mark mX12_mark 4 85 3 69 [some (.ref 0), some (.int a1), some (.int a2), some (.int a3), some (.int a4), none, none, none, none] [some (.ref 153), some (.int a1), some (.int a2), some (.int a3), some (.int a4), none, none] (inLw L xs (c + 1)) h := by
  obtain ⟨ow, F, pa, my, fa, o, a, u, r, pr, bx, kp, tp, t, tf, tl, n, w, C, q, ok, hb, hw, hk, hx⟩ := hI
  have hd := ok.1.1
  have hP6 := hd.w.1.2
  have hF4 := hd.f4
  obtain ⟨⟨_, _, _, _, _, _, _, zg⟩, ⟨_, _, _, _, _, _, _, _, zv⟩, ⟨_, _, zl⟩, ⟨_, _, zo⟩⟩ := C.cz
  unfold Op2
  have hau := q.au
  refine pX11_mark C hd (fun hn => ?_) (fun p f i j hp hf hi hj e1 e2 e3 e4 ho h1 o1' f1 C1 => ?_)
  · refine ⟨rfl, rfl, q.1.1.1, _, rfl, ?_⟩
    refine pX12_mark q hd (fun _ => ⟨rfl, inLw.fin C mFr.rf q ok hb (by omega) hk hx⟩) (fun p f i j hp hf hi hj e1 e2 e3 e4 ho h2 f2 q2 => absurd ⟨p, f, i, j, hp, hf, hi, hj, e1, e2, e3, e4, ho⟩ hn)
  · obtain ⟨q1, k1, i1, o1⟩ := cfm C.kb q f1 (by decide)
    refine ⟨k1, i1, o1, _, rfl, ?_⟩
    refine pX12_mark q1 hd (fun hn => absurd ⟨p, f, i, j, hp, hf, hi, hj, e1, e2, e3, e4, ho⟩ hn) (fun p' f' i' j' hp' hf' hi' hj' d1 d2 d3 d4 ho' h2 f2 q2 => ?_)
    have hT := (hd.w.2.1 p (by omega)).2
    have hT' := (hd.w.2.1 p' (by omega)).2
    obtain rfl := nIuq e1 d1 (by omega) (by omega)
    obtain rfl := nIuq e2 d2 (by omega) (by omega)
    obtain rfl := nIuq e3 d3 (by omega) (by omega)
    obtain rfl := nIuq e4 d4 (by omega) (by omega)
    exact ⟨rfl, inLw.fin C1 f2 q2 (ok.act hau (ok_mk ok.1 hf hp (by omega) ho)) hb (by omega) (k1.trans hk) (i1.trans hx)⟩
set_option maxRecDepth 20000 in
theorem op_unmark {L : Nat} {xs : Nat → Int32} (hL : L ≤ 3584) (c : Nat) (h : mH) (a1 a2 : Int32) (hc : 7 * c + 7 ≤ L) (hI : inLw L xs c h) : Op2 mX11_unmark mX12_unmark 4 85 2 43 [some (.ref 0), some (.int a1), some (.int a2), none, none, none, none, none] [some (.ref 153), some (.int a1), some (.int a2), none, none, none] (inLw L xs (c + 1)) h := by
  obtain ⟨ow, F, pa, my, fa, o, a, u, r, pr, bx, kp, tp, t, tf, tl, n, w, C, q, ok, hb, hw, hk, hx⟩ := hI
  have hd := ok.1.1
  have hP6 := hd.w.1.2
  have hF4 := hd.f4
  obtain ⟨⟨_, _, _, _, _, _, _, zg⟩, ⟨_, _, _, _, _, _, _, _, zv⟩, ⟨_, _, zl⟩, ⟨_, _, zo⟩⟩ := C.cz
  unfold Op2
  have hau := q.au
  refine pX11_unmark C hd (fun hn => ?_) (fun p f hp hf e1 e2 hm h1 o1' f1 C1 => ?_)
  · refine ⟨rfl, rfl, q.1.1.1, _, rfl, ?_⟩
    refine pX12_unmark q hd (fun _ => ⟨rfl, inLw.fin C mFr.rf q ok hb (by omega) hk hx⟩) (fun p f hp hf e1 e2 hm h2 f2 q2 => absurd (hn p f hp hf e1 e2) (by omega))
  · obtain ⟨q1, k1, i1, o1⟩ := cfm C.kb q f1 (by decide)
    refine ⟨k1, i1, o1, _, rfl, ?_⟩
    refine pX12_unmark q1 hd (fun hn => absurd (hn p f hp hf e1 e2) (by omega)) (fun p' f' hp' hf' d1 d2 hm' h2 f2 q2 => ?_)
    obtain rfl := nIuq e1 d1 (by omega) (by omega)
    obtain rfl := nIuq e2 d2 (by omega) (by omega)
    exact ⟨rfl, inLw.fin C1 f2 q2 (ok.act hau (ok_um ok.1 hp)) hb (by omega) (k1.trans hk) (i1.trans hx)⟩
set_option maxRecDepth 20000 in
theorem op_learn {L : Nat} {xs : Nat → Int32} (hL : L ≤ 3584) (c : Nat) (h : mH) (a1 : Int32) (hc : 7 * c + 7 ≤ L) (hI : inLw L xs c h) : Op2 mX11_learn mX12_learn 8 208 9 224 [some (.ref 0), some (.int a1)] [some (.ref 153), some (.int a1)] (inLw L xs (c + 1)) h := by
  obtain ⟨ow, F, pa, my, fa, o, a, u, r, pr, bx, kp, tp, t, tf, tl, n, w, C, q, ok, hb, hw, hk, hx⟩ := hI
  have hd := ok.1.1
  have hP6 := hd.w.1.2
  have hF4 := hd.f4
  obtain ⟨⟨_, _, _, _, _, _, _, zg⟩, ⟨_, _, _, _, _, _, _, _, zv⟩, ⟨_, _, zl⟩, ⟨_, _, zo⟩⟩ := C.cz
  unfold Op2
  have hau := q.au
  refine pX11_learn C hd (by omega) (fun hn => ?_) (fun f L' hop e1 hne co hl6 h1 ow1 o1' u1 f1 C1 => ?_)
  · refine ⟨rfl, rfl, q.1.1.1, _, rfl, ?_⟩
    refine pX12_learn q hd (fun _ => ⟨rfl, inLw.fin C mFr.rf q ok hb (by omega) hk hx⟩) (fun f L' hop e1 hne co hl6 h2 f2 q2 => ?_)
    rcases hn with hn | ⟨f', d1, d2⟩
    · rw [hn] at e1; cases e1
    · rw [e1] at d1; cases d1; exact absurd d2 hne
  · obtain ⟨q1, k1, i1, o1⟩ := cfm C.kb q f1 (by decide)
    refine ⟨k1, i1, o1, _, rfl, ?_⟩
    refine pX12_learn q1 hd (fun hn => ?_) (fun f' L2 hop' d1 hne' co' hl6' h2 f2 q2 => ?_)
    · rcases hn with hn | ⟨f', d1, d2⟩
      · rw [hn] at e1; cases e1
      · rw [e1] at d1; cases d1; exact absurd d2 hne
    · rw [e1] at d1
      cases d1
      obtain rfl := (coP_un co co').1
      exact ⟨rfl, inLw.fin C1 f2 q2 (ok.act hau (ok_ln ok.1 (ix_some e1).1 hne hl6 co)) hb (by omega) (k1.trans hk) (i1.trans hx)⟩
set_option maxRecDepth 20000 in
theorem op_take {L : Nat} {xs : Nat → Int32} (hL : L ≤ 3584) (c : Nat) (h : mH) (a1 a2 : Int32) (hc : 7 * c + 7 ≤ L) (hI : inLw L xs c h) : Op2 mX11_take mX12_take 9 233 10 246 [some (.ref 0), some (.int a1), some (.int a2), none, none, none, none, none, none, none] [some (.ref 153), some (.int a1), some (.int a2), none, none] (inLw L xs (c + 1)) h := by
  obtain ⟨ow, F, pa, my, fa, o, a, u, r, pr, bx, kp, tp, t, tf, tl, n, w, C, q, ok, hb, hw, hk, hx⟩ := hI
  have hd := ok.1.1
  have hP6 := hd.w.1.2
  have hF4 := hd.f4
  obtain ⟨⟨_, _, _, _, _, _, _, zg⟩, ⟨_, _, _, _, _, _, _, _, zv⟩, ⟨_, _, zl⟩, ⟨_, _, zo⟩⟩ := C.cz
  unfold Op2
  have hau := q.au
  refine pX11_take C hd (by omega) (fun h1 ow1 n1 u1 f1 C1 tk => ?_) (fun p f l L' hop cn hm0 pru wi co hl6 hd1 hne hl8 h1 ow1 o1' n1 u1 f1 C1 => ?_)
  · obtain ⟨q1, k1, i1, o1⟩ := cfm C.kb q f1 (by decide)
    refine ⟨k1, i1, o1, _, rfl, ?_⟩
    refine pX12_take q1 hd (fun _ h2 f2 => ⟨rfl, inLw.fin C1 (f2.mM (by decide)) (q1.fr f2) ok hb (by omega) (k1.trans hk) (i1.trans hx)⟩) (fun p f l L' hop cn hm0 prp wi co hl6 hd1 h2 f2 q2 => ?_)
    rcases tk with tk | ⟨p', f', cn', tk⟩
    · rw [tk] at cn; cases cn
    · rw [cn'] at cn
      cases cn
      rcases tk with tk | ⟨res0, un, tk⟩
      · omega
      · have e9 := un _ prp
        rcases tk with tk | ⟨l', tk, nw⟩
        · rw [tk] at e9; cases e9
        · rw [tk] at e9; cases e9; exact absurd wi nw
  · obtain ⟨q1, k1, i1, o1⟩ := cfm C.kb q f1 (by decide)
    refine ⟨k1, i1, o1, _, rfl, ?_⟩
    refine pX12_take q1 hd (fun hn h2 f2 => ?_) (fun p' f' l' L2 hop' cn' hm0' prp wi' co' hl6' hd1' h2 f2 q2 => ?_)
    · rcases hn with hn | ⟨p', f', cn', hn⟩
      · rw [hn] at cn; cases cn
      · rw [cn'] at cn
        cases cn
        rcases hn with hn | hn | ⟨l', prp, nw⟩
        · omega
        · cases pru _ hn
        · cases pru _ prp; exact absurd wi nw
    · rw [cn] at cn'
      cases cn'
      cases pru _ prp
      obtain rfl := (coP_un co co').1
      exact ⟨rfl, inLw.fin C1 f2 q2 (ok.act hau (ok_ln ⟨hd1, tk_hi ok.1.2 (by have := cn_f cn; omega) (by have := cn_p cn; omega) hl8⟩ (cn_f cn) hne hl6 co)) hb (by omega) (k1.trans hk) (i1.trans hx)⟩
set_option maxRecDepth 20000 in
theorem op_undo {L : Nat} {xs : Nat → Int32} (hL : L ≤ 3584) (c : Nat) (h : mH) (hc : 7 * c + 7 ≤ L) (hI : inLw L xs c h) : Op2 mX11_undo mX12_undo 2 41 1 24 [some (.ref 0), none] [some (.ref 153)] (inLw L xs (c + 1)) h := by
  obtain ⟨ow, F, pa, my, fa, o, a, u, r, pr, bx, kp, tp, t, tf, tl, n, w, C, q, ok, hb, hw, hk, hx⟩ := hI
  have hd := ok.1.1
  have hP6 := hd.w.1.2
  have hF4 := hd.f4
  obtain ⟨⟨_, _, _, _, _, _, _, zg⟩, ⟨_, _, _, _, _, _, _, _, zv⟩, ⟨_, _, zl⟩, ⟨_, _, zo⟩⟩ := C.cz
  unfold Op2
  have hau := q.au
  refine pX11_undo C (fun z0 h1 f1 C1 => ?_) (fun z0 h1 f1 C1 => ?_)
  · obtain ⟨q1, k1, i1, o1⟩ := cfm C.kb q f1 (by decide)
    refine ⟨k1, i1, o1, _, rfl, ?_⟩
    refine pX12_undo' q1 (fun _ => ⟨rfl, inLw.fin C1 mFr.rf q1 ok hb (by omega) (k1.trans hk) (i1.trans hx)⟩) (fun z1 h2 f2 q2 => absurd z0 (by omega))
  · obtain ⟨q1, k1, i1, o1⟩ := cfm C.kb q f1 (by decide)
    refine ⟨k1, i1, o1, _, rfl, ?_⟩
    refine pX12_undo' q1 (fun z1 => absurd z0 (by omega)) (fun _ h2 f2 q2 => ⟨rfl, inLw.fin C1 f2 q2 (ok.ex (i := (a - 1)) (by omega) (by omega)) hb (by omega) (k1.trans hk) (i1.trans hx)⟩)
set_option maxRecDepth 20000 in
theorem op_redo {L : Nat} {xs : Nat → Int32} (hL : L ≤ 3584) (c : Nat) (h : mH) (hc : 7 * c + 7 ≤ L) (hI : inLw L xs c h) : Op2 mX11_redo mX12_redo 2 41 1 24 [some (.ref 0), none] [some (.ref 153)] (inLw L xs (c + 1)) h := by
  obtain ⟨ow, F, pa, my, fa, o, a, u, r, pr, bx, kp, tp, t, tf, tl, n, w, C, q, ok, hb, hw, hk, hx⟩ := hI
  have hd := ok.1.1
  have hP6 := hd.w.1.2
  have hF4 := hd.f4
  obtain ⟨⟨_, _, _, _, _, _, _, zg⟩, ⟨_, _, _, _, _, _, _, _, zv⟩, ⟨_, _, zl⟩, ⟨_, _, zo⟩⟩ := C.cz
  unfold Op2
  have hau := q.au
  refine pX11_redo C (fun z0 h1 f1 C1 => ?_) (fun z0 h1 f1 C1 => ?_)
  · obtain ⟨q1, k1, i1, o1⟩ := cfm C.kb q f1 (by decide)
    refine ⟨k1, i1, o1, _, rfl, ?_⟩
    refine pX12_redo' q1 (fun _ => ⟨rfl, inLw.fin C1 mFr.rf q1 ok hb (by omega) (k1.trans hk) (i1.trans hx)⟩) (fun z1 h2 f2 q2 => absurd z0 (by omega))
  · obtain ⟨q1, k1, i1, o1⟩ := cfm C.kb q f1 (by decide)
    refine ⟨k1, i1, o1, _, rfl, ?_⟩
    refine pX12_redo' q1 (fun z1 => absurd z0 (by omega)) (fun _ h2 f2 q2 => ⟨rfl, inLw.fin C1 f2 q2 (ok.ex (i := a) (by omega) (by omega)) hb (by omega) (k1.trans hk) (i1.trans hx)⟩)
set_option maxRecDepth 20000 in
theorem op_image {L : Nat} {xs : Nat → Int32} (hL : L ≤ 3584) (c : Nat) (h : mH) (a1 : Int32) (hc : 7 * c + 7 ≤ L) (hI : inLw L xs c h) : Op2 mX11_image mX12_image 3 63 3 66 [some (.ref 0), some (.int a1), none] [some (.ref 153), some (.int a1), none] (inLw L xs (c + 1)) h := by
  obtain ⟨ow, F, pa, my, fa, o, a, u, r, pr, bx, kp, tp, t, tf, tl, n, w, C, q, ok, hb, hw, hk, hx⟩ := hI
  have hd := ok.1.1
  have hP6 := hd.w.1.2
  have hF4 := hd.f4
  obtain ⟨⟨_, _, _, _, _, _, _, zg⟩, ⟨_, _, _, _, _, _, _, _, zv⟩, ⟨_, _, zl⟩, ⟨_, _, zo⟩⟩ := C.cz
  unfold Op2
  refine pX11_image C hd (by omega) (fun hn => ?_) (fun b hb2 e1 h1 ow1 f1 C1 => ?_)
  · refine ⟨rfl, rfl, q.1.1.1, _, rfl, ?_⟩
    refine pX12_image q hd (fun _ => ⟨rfl, inLw.fin C mFr.rf q ok hb (by omega) hk hx⟩) (fun b hb2 e1 h2 f2 q2 => ?_)
    rw [e1, ix_nI hb2 (by omega)] at hn
    cases hn
  · obtain ⟨q1, k1, i1, o1⟩ := cfm C.kb q f1 (by decide)
    refine ⟨k1, i1, o1, _, rfl, ?_⟩
    refine pX12_image q1 hd (fun hn => ?_) (fun b' hb' d1 h2 f2 q2 => ?_)
    · rw [e1, ix_nI hb2 (by omega)] at hn
      cases hn
    · obtain rfl := nIuq e1 d1 (by omega) (by omega)
      exact ⟨rfl, inLw.fin C1 f2 q2 ok.img hb (by omega) (k1.trans hk) (i1.trans hx)⟩
set_option maxRecDepth 20000 in
theorem op_back {L : Nat} {xs : Nat → Int32} (hL : L ≤ 3584) (c : Nat) (h : mH) (a1 : Int32) (hc : 7 * c + 7 ≤ L) (hI : inLw L xs c h) : Op2 mX11_back mX12_back 4 84 3 66 [some (.ref 0), some (.int a1)] [some (.ref 153), some (.int a1), none] (inLw L xs (c + 1)) h := by
  obtain ⟨ow, F, pa, my, fa, o, a, u, r, pr, bx, kp, tp, t, tf, tl, n, w, C, q, ok, hb, hw, hk, hx⟩ := hI
  have hd := ok.1.1
  have hP6 := hd.w.1.2
  have hF4 := hd.f4
  obtain ⟨⟨_, _, _, _, _, _, _, zg⟩, ⟨_, _, _, _, _, _, _, _, zv⟩, ⟨_, _, zl⟩, ⟨_, _, zo⟩⟩ := C.cz
  unfold Op2
  have hkk : ∀ b, b < 2 → ¬ kp b = 0 → sOK (bx b) F pa my := fun b hb2 e => (ok.2.2 b hb2 e).1
  refine pX11_back C hd hkk (fun hn => ?_) (fun b hb2 e1 hnk h1 f1 C1 => ?_)
  · refine ⟨rfl, rfl, q.1.1.1, _, rfl, ?_⟩
    refine pX12_back q hkk (fun _ => ⟨rfl, inLw.fin C mFr.rf q ok hb (by omega) hk hx⟩) (fun b hb2 e1 hnk h2 f2 q2 => absurd (hn b hb2 e1) hnk)
  · obtain ⟨q1, k1, i1, o1⟩ := cfm C.kb q f1 (by decide)
    refine ⟨k1, i1, o1, _, rfl, ?_⟩
    refine pX12_back q1 hkk (fun hn => absurd (hn b hb2 e1) hnk) (fun b' hb' d1 hnk' h2 f2 q2 => ?_)
    obtain rfl := nIuq e1 d1 (by omega) (by omega)
    exact ⟨rfl, inLw.fin C1 f2 q2 (ok.back hb2 hnk) hb (by omega) (k1.trans hk) (i1.trans hx)⟩
set_option maxRecDepth 20000 in
theorem op_feed {L : Nat} {xs : Nat → Int32} (hL : L ≤ 3584) (c : Nat) (h : mH) (a1 a2 a3 a4 a5 : Int32) (hc : 7 * c + 7 ≤ L) (hI : inLw L xs c h) : Op2 mX11_feed mX12_feed 1 22 1 22 [some (.ref 0), some (.int a1), some (.int a2), some (.int a3), some (.int a4), some (.int a5)] [some (.ref 153), some (.int a1), some (.int a2), some (.int a3), some (.int a4), some (.int a5)] (inLw L xs (c + 1)) h := by
  obtain ⟨ow, F, pa, my, fa, o, a, u, r, pr, bx, kp, tp, t, tf, tl, n, w, C, q, ok, hb, hw, hk, hx⟩ := hI
  have hd := ok.1.1
  have hP6 := hd.w.1.2
  have hF4 := hd.f4
  obtain ⟨⟨_, _, _, _, _, _, _, zg⟩, ⟨_, _, _, _, _, _, _, _, zv⟩, ⟨_, _, zl⟩, ⟨_, _, zo⟩⟩ := C.cz
  unfold Op2
  have ht9 := q.t9.2
  refine pX11_feed C ht9 (fun hn => ?_) (fun hn h1 C1 f1 => ?_)
  · refine ⟨rfl, rfl, q.1.1.1, _, rfl, ?_⟩
    refine pX12_feed q.1.1 ht9 q.t9.1 (fun _ => ⟨rfl, inLw.fin C mFr.rf q ok hb (by omega) hk hx⟩) (fun hm => absurd hm (by omega))
  · obtain ⟨q1, k1, i1, o1⟩ := cfm C.kb q f1 (by decide)
    refine ⟨k1, i1, o1, _, rfl, ?_⟩
    refine pX12_feed q1.1.1 ht9 q1.t9.1 (fun hm => absurd hm (by omega)) (fun _ => ⟨rfl, ?_⟩)
    have q2 := ((((q1.four (v := a1) (by omega)).four (v := a2) (by omega)).four (v := a3) (by omega)).four (v := a4) (by omega)).four (v := a5) (by omega)
    have f2 := (((((four_fr (h := h1) (t := t) (v := a1)).tr (four_fr (t := t + 4) (v := a2))).tr (four_fr (t := t + 8) (v := a3))).tr (four_fr (t := t + 12) (v := a4))).tr (four_fr (t := t + 16) (v := a5))).mM (by decide)
    exact inLw.fin C1 f2 q2 ok (fur_by (fur_by (fur_by (fur_by (fur_by hb))))) (by omega) (k1.trans hk) (i1.trans hx)
set_option maxRecDepth 20000 in
theorem op_end {L : Nat} {xs : Nat → Int32} (hL : L ≤ 3584) (c : Nat) (h : mH) (a1 : Int32) (hc : 7 * c + 7 ≤ L) (hI : inLw L xs c h) : Op2 mX11_end mX12_end 0 0 1 22 [some (.ref 0), some (.int a1)] [some (.ref 153), some (.int a1)] (inLw L xs (c + 1)) h := by
  obtain ⟨ow, F, pa, my, fa, o, a, u, r, pr, bx, kp, tp, t, tf, tl, n, w, C, q, ok, hb, hw, hk, hx⟩ := hI
  have hd := ok.1.1
  have hP6 := hd.w.1.2
  have hF4 := hd.f4
  obtain ⟨⟨_, _, _, _, _, _, _, zg⟩, ⟨_, _, _, _, _, _, _, _, zv⟩, ⟨_, _, zl⟩, ⟨_, _, zo⟩⟩ := C.cz
  unfold Op2
  have ht9 := q.t9.2
  refine pX11_end C ht9 (fun hn => ?_) (fun j hj e1 h1 C1 f1 => ?_)
  · refine ⟨rfl, rfl, q.1.1.1, _, rfl, ?_⟩
    refine pX12_end q.1.1 ht9 q.t9.1 (fun _ => ⟨rfl, inLw.fin C mFr.rf q ok hb (by omega) hk hx⟩) (fun j hj e1 => (hn j hj e1).elim)
  · obtain ⟨q1, k1, i1, o1⟩ := cfm C.kb q f1 (by decide)
    refine ⟨k1, i1, o1, _, rfl, ?_⟩
    refine pX12_end q1.1.1 ht9 q1.t9.1 (fun hn => (hn j hj e1).elim) (fun j' hj' d1 => ?_)
    obtain rfl := nIuq e1 d1 (by omega) (by omega)
    obtain ⟨q2, f2⟩ := q1.endT hj
    exact ⟨rfl, inLw.fin C1 f2 q2 ok hb (by omega) (k1.trans hk) (i1.trans hx)⟩
set_option maxRecDepth 20000 in
theorem op_page {L : Nat} {xs : Nat → Int32} (hL : L ≤ 3584) (c : Nat) (h : mH) (hc : 7 * c + 7 ≤ L) (hI : inLw L xs c h) : Op2 mX11_page mX12_page 5 106 3 65 [some (.ref 0), none, none] [some (.ref 153), none] (inLw L xs (c + 1)) h := by
  obtain ⟨ow, F, pa, my, fa, o, a, u, r, pr, bx, kp, tp, t, tf, tl, n, w, C, q, ok, hb, hw, hk, hx⟩ := hI
  have hd := ok.1.1
  have hP6 := hd.w.1.2
  have hF4 := hd.f4
  obtain ⟨⟨_, _, _, _, _, _, _, zg⟩, ⟨_, _, _, _, _, _, _, _, zv⟩, ⟨_, _, zl⟩, ⟨_, _, zo⟩⟩ := C.cz
  unfold Op2
  have ht9 := q.t9.2
  have hau := q.au
  refine pX11_page C hd hb ht9 (by omega) (fun c6 h1 f1 C1 => ?_) (fun fa1 pl1 e1 c6 h1 ow1 f1 C1 => ?_) (fun n1 e1 c6 h1 ow1 o1' f1 C1 => ?_)
  · obtain ⟨q1, k1, i1, o1⟩ := cfm C.kb q f1 (by decide)
    refine ⟨k1, i1, o1, _, rfl, ?_⟩
    refine pX12_page6 q1 hd c6 (fun h2 f2 q2 => ⟨rfl, inLw.fin C1 f2 q2 ok hb (by omega) (k1.trans hk) (i1.trans hx)⟩)
  · obtain ⟨q1, k1, i1, o1⟩ := cfm C.kb q f1 (by decide)
    refine ⟨k1, i1, o1, _, rfl, ?_⟩
    refine pX12_page q1 hd hb (fun c9 h2 f2 q2 => absurd c9 (by omega)) (fun fa2 pl2 e2 h2 f2 q2 => ?_) (fun n2 e2 _ _ h2 f2 q2 => ?_)
    · rw [e1] at e2
      cases e2
      exact ⟨rfl, inLw.fin C1 f2 q2 ok hb (by omega) (k1.trans hk) (i1.trans hx)⟩
    · rw [e1] at e2; cases e2
  · obtain ⟨q1, k1, i1, o1⟩ := cfm C.kb q f1 (by decide)
    refine ⟨k1, i1, o1, _, rfl, ?_⟩
    refine pX12_page q1 hd hb (fun c9 h2 f2 q2 => absurd c9 (by omega)) (fun fa2 pl2 e2 h2 f2 q2 => ?_) (fun n2 e2 _ _ h2 f2 q2 => ?_)
    · rw [e1] at e2; cases e2
    · rw [e1] at e2
      cases e2
      exact ⟨rfl, inLw.fin C1 f2 q2 (ok.act hau (ok_pg ok.1 hb c6 e1)) hb (by omega) (k1.trans hk) (i1.trans hx)⟩
set_option maxRecDepth 20000 in
theorem op_book {L : Nat} {xs : Nat → Int32} (hL : L ≤ 3584) (c : Nat) (h : mH) (hc : 7 * c + 7 ≤ L) (hI : inLw L xs c h) : Op2 mX11_book mX12_book 6 132 4 91 [some (.ref 0), none, none, none] [some (.ref 153), none] (inLw L xs (c + 1)) h := by
  obtain ⟨ow, F, pa, my, fa, o, a, u, r, pr, bx, kp, tp, t, tf, tl, n, w, C, q, ok, hb, hw, hk, hx⟩ := hI
  have hd := ok.1.1
  have hP6 := hd.w.1.2
  have hF4 := hd.f4
  obtain ⟨⟨_, _, _, _, _, _, _, zg⟩, ⟨_, _, _, _, _, _, _, _, zv⟩, ⟨_, _, zl⟩, ⟨_, _, zo⟩⟩ := C.cz
  unfold Op2
  have ht9 := q.t9.2
  refine pX11_book C hd hb ht9 (by omega) (fun fa1 pl1 e1 h1 ow1 f1 C1 => ?_) (fun f rp mn P ct rws e1 h1 ow1 fa' f1 C1 => ?_)
  · obtain ⟨q1, k1, i1, o1⟩ := cfm C.kb q f1 (by decide)
    refine ⟨k1, i1, o1, _, rfl, ?_⟩
    refine pX12_book q1 hb (fun fa2 pl2 e2 h2 f2 q2 => ?_) (fun f' rp' nm' mn' P' ct' rw' e2 hi h2 f2 q2 => ?_)
    · rw [e1] at e2
      cases e2
      exact ⟨rfl, inLw.fin C1 f2 q2 ok hb (by omega) (k1.trans hk) (i1.trans hx)⟩
    · rw [e1] at e2; cases e2
  · obtain ⟨q1, k1, i1, o1⟩ := cfm C.kb q f1 (by decide)
    refine ⟨k1, i1, o1, _, rfl, ?_⟩
    refine pX12_book q1 hb (fun fa2 pl2 e2 h2 f2 q2 => ?_) (fun f' rp' nm' mn' P' ct' rw' e2 hi h2 f2 q2 => ?_)
    · rw [e1] at e2; cases e2
    · rw [e1] at e2
      cases e2
      have ev : vp_nar .boolean (nI 0) = 0 := by decide +kernel
      refine ⟨rfl, inLw.fin (C1 (mgI rp pa f) (mgI mn my f) pr (fun k hk9 => ⟨(if_pos hk9).symm, (if_pos hk9).symm⟩)) f2 q2 ⟨⟨sOK_bk hd hb e1 hi, hlZ.zero (fun y hy => (bkR_at P hi.2.1).2.2.2 y (by omega))⟩, fun i hi9 => absurd hi9 (Nat.not_lt_zero i), fun b hb2 e => absurd ?_ e⟩ hb (by omega) (k1.trans hk) (i1.trans hx)⟩
      rw [ev]
      unfold upI
      by_cases cb : b = 1
      · rw [if_pos cb]
      · rw [if_neg cb, if_pos (by omega)]
