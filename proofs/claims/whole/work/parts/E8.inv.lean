/-! ===== what holds between calls; questions ===== -/
def hlZ (r : Nat → Int64) : Prop := ∀ f, f < 4 → ∀ j, j < 40 → lrS r f 0 ≤ j → lrS r f (4 + j) = 0
def okRw (r : Nat → Int64) (F : Nat) (pa my : Nat → Int32) : Prop := sOK r F pa my ∧ hlZ r
def okAll (F : Nat) (pa my : Nat → Int32) (a u : Nat) (r : Nat → Int64) (pr bx : Nat → Nat → Int64) (kp : Nat → Int32) : Prop := okRw r F pa my ∧ (∀ i, i < a + u → okRw (pr i) F pa my) ∧ ∀ b, b < 2 → ¬ kp b = 0 → okRw (bx b) F pa my
def inLw (L : Nat) (xs : Nat → Int32) (c : Nat) (h : mH) : Prop := ∃ (ow : Nat → Nat) (F : Nat) (pa my : Nat → Int32) (fa o a u : Nat) (r : Nat → Int64) (pr bx : Nat → Nat → Int64) (kp tp : Nat → Int32) (t : Nat) (tf tl : Int32) (n w : Nat), cC ow h F pa my fa o a u r pr bx kp tp t tf tl n w ∧ mT h r F pa my pr a u bx kp tp t tf tl ∧ okAll F pa my a u r pr bx kp ∧ byt tp ∧ w ≤ 2000000 + 1000 * c ∧ hK h scrA = (99, L) ∧ hI h scrA = xs
theorem cfm {S : List Nat} {u9 : Nat} {ow ow' : Nat → Nat} {h h' : mH} {F : Nat} {pa my : Nat → Int32} {a u : Nat} {r : Nat → Int64} {pr : Nat → Nat → Int64} {bx : Nat → Nat → Int64} {kp tp : Nat → Int32} {t : Nat} {tf tl : Int32} (kb : kB ow h) (q : mT h r F pa my pr a u bx kp tp t tf tl) (f : cFr S u9 ow h ow' h') (hs : 17 ∉ S) : mT h' r F pa my pr a u bx kp tp t tf tl ∧ hK h' scrA = hK h scrA ∧ hI h' scrA = hI h scrA ∧ hO h' 153 12 := by
  have hm : ∀ x, 153 ≤ x → x ≤ 191 → cSm h h' x := fun x h1 h2 => f.s (kb.2.2.2.1 x h1 h2).1 (kb.2.2.2.1 x h1 h2).2 hs
  have hsc := f.2 scrA (Or.inr rfl)
  have h153 := hm 153 (by omega) (by omega)
  refine ⟨⟨⟨⟨f.o q.1.1.1, fun j hj => ⟨(congrFun h153.2.2 _).trans (q.1.1.2 j hj).1, f.a (q.1.1.2 j hj).2⟩⟩, (hm 162 (by omega) (by omega)).2.1.trans q.1.2.1, (congrFun h153.1 21).trans q.1.2.2.1, (hm 159 (by omega) (by omega)).1.trans q.1.2.2.2.1, (hm 161 (by omega) (by omega)).1.trans q.1.2.2.2.2⟩, q.zz, fun i hi => (pastR_eq (hm 166 (by omega) (by omega)).2.1).trans (q.pp i hi), (congrFun h153.1 28).trans q.aa, (congrFun h153.1 29).trans q.uu, q.au, fun b hb => (boxR_eq (hm 190 (by omega) (by omega)).2.1).trans (q.bb b hb), (hm 191 (by omega) (by omega)).1.trans q.kk, (hm 154 (by omega) (by omega)).1.trans q.tt, ⟨(congrFun h153.1 1).trans q.t9.1, q.t9.2⟩, (congrFun h153.1 9).trans q.ff, (congrFun h153.1 10).trans q.ll⟩, hsc.1, (hsc.2.2 (by rw [kb.2.2.2.2]; exact hs)).1, f.o q.1.1.1⟩
theorem mFr.c17 {ow : Nat → Nat} {h h' : mH} (f : mFr pwM h h') (kb : kB ow h) : cFr [17] 0 ow h ow h' := by
  refine ⟨⟨by rw [f.1]; exact Nat.le_refl _, by rw [f.2.1]; exact Nat.le_refl _, by rw [f.1, f.2.1]; exact Nat.le_refl _⟩, fun x hx => ⟨f.2.2.1 x, rfl, fun z => ?_⟩⟩
  have hx9 : ∀ y, ¬ pwM x y := fun y w => z (by rw [(kb.2.2.2.1 x w.1 w.2).2]; exact List.mem_singleton.mpr rfl)
  exact ⟨funext fun y => (f.2.2.2.2 x y (hx9 y)).1, funext fun y => (f.2.2.2.2 x y (hx9 y)).2, funext fun y => f.2.2.2.1 x y⟩
theorem cC.m17 {ow : Nat → Nat} {h h' : mH} {F : Nat} {pa my : Nat → Int32} {fa o a u : Nat} {r : Nat → Int64} {pr : Nat → Nat → Int64} {bx : Nat → Nat → Int64} {kp tp : Nat → Int32} {t : Nat} {tf tl : Int32} {n w : Nat} (c : cC ow h F pa my fa o a u r pr bx kp tp t tf tl n w) (f : cFr [17] 0 ow h ow h') : cC ow h' F pa my fa o a u r pr bx kp tp t tf tl n w :=
  ⟨c.zx.fr f (by decide), c.zh.fr f (by decide), c.kb.fr f (by decide) (by decide), c.fl.fr f (by decide), c.rg.fr f (by decide) (fun j hj => by simp; omega), c.od, c.bxx.fr f (by decide) (by decide) (by decide) (by decide), c.tpp.fr f (by decide), c.rd.fr f (by decide), c.cz.fr f (by decide) (by decide) (by decide) (by decide), c.tw.fr f (fun j hj => by simp; omega), c.ti.fr f (by decide)⟩
theorem inLw.fin {ow : Nat → Nat} {h1 h2 : mH} {F : Nat} {pa my : Nat → Int32} {fa o a u : Nat} {r : Nat → Int64} {pr : Nat → Nat → Int64} {bx : Nat → Nat → Int64} {kp tp : Nat → Int32} {t : Nat} {tf tl : Int32} {n w : Nat} {L c : Nat} {xs : Nat → Int32} (c1 : cC ow h1 F pa my fa o a u r pr bx kp tp t tf tl n w) (f : mFr pwM h1 h2) (q2 : mT h2 r F pa my pr a u bx kp tp t tf tl) (ok : okAll F pa my a u r pr bx kp) (hb : byt tp) (hw : w ≤ 2000000 + 1000 * (c + 1)) (hk : hK h1 scrA = (99, L)) (hx : hI h1 scrA = xs) : inLw L xs (c + 1) h2 :=
  ⟨ow, F, pa, my, fa, o, a, u, r, pr, bx, kp, tp, t, tf, tl, n, w, c1.m17 (f.c17 c1.kb), q2, ok, hb, hw, (f.2.2.1 scrA).trans hk, (funext fun y => (f.2.2.2.2 scrA y (fun z => absurd z.2 (by decide))).1).trans hx⟩
theorem cZ.gv {S : List Nat} {u9 : Nat} {ow ow' : Nat → Nat} {h h' : mH} (g : cZ ow h) (f : cFr S u9 ow h ow' h') (h3 : 3 ∉ S) (h4 : 4 ∉ S) (gg : ∃ pl gb ge gs gn gf gt, zG ow' h' pl gb ge gs gn gf gt) (vv : ∃ v0 v1 v2 v3 v4 vc vk vh, zV ow' h' v0 v1 v2 v3 v4 vc vk vh) : cZ ow' h' := by
  obtain ⟨_, _, ⟨_, _, g3⟩, ⟨_, _, g4⟩⟩ := g
  exact ⟨gg, vv, ⟨_, _, g3.fr f h3⟩, ⟨_, _, g4.fr f h4⟩⟩
theorem cZ.l3 {S : List Nat} {u9 : Nat} {ow ow' : Nat → Nat} {h h' : mH} (g : cZ ow h) (f : cFr S u9 ow h ow' h') (h2 : 2 ∉ S) (h4 : 4 ∉ S) (gg : ∃ pl gb ge gs gn gf gt, zG ow' h' pl gb ge gs gn gf gt) (ll : ∃ lb lc, zL ow' h' 121 3 lb lc) : cZ ow' h' := by
  obtain ⟨_, ⟨_, _, _, _, _, _, _, _, g2⟩, _, ⟨_, _, g4⟩⟩ := g
  exact ⟨gg, ⟨_, _, _, _, _, _, _, _, g2.fr f h2⟩, ll, ⟨_, _, g4.fr f h4⟩⟩
theorem cZ.l4 {S : List Nat} {u9 : Nat} {ow ow' : Nat → Nat} {h h' : mH} (g : cZ ow h) (f : cFr S u9 ow h ow' h') (h2 : 2 ∉ S) (gg : ∃ pl gb ge gs gn gf gt, zG ow' h' pl gb ge gs gn gf gt) (ll : (∃ lb lc, zL ow' h' 121 3 lb lc) ∧ ∃ lb lc, zL ow' h' 123 4 lb lc) : cZ ow' h' := by
  obtain ⟨_, ⟨_, _, _, _, _, _, _, _, g2⟩, _⟩ := g
  exact ⟨gg, ⟨_, _, _, _, _, _, _, _, g2.fr f h2⟩, ll.1, ll.2⟩
theorem pX12_page6 {h : mH} {Q : Option Value → mH → Prop} {F : Nat} {pa my : Nat → Int32} {a u : Nat} {r : Nat → Int64} {pr : Nat → Nat → Int64} {bx : Nat → Nat → Int64} {kp tp : Nat → Int32} {t : Nat} {tf tl : Int32} (ht : mT h r F pa my pr a u bx kp tp t tf tl) (hd : sOK r F pa my) (c6 : rP r = 6) (h6 : ∀ h', mFr pwM h h' → mT h' r F pa my pr a u bx kp tp 0 tf tl → Q (some (.int (-1))) h') : Wp mX12_page 3 65 0 [some (.ref 153), none] [] h Q := by
  have hP6 := hd.w.1.2
  refine wp_aload_n dX12_page_0 rfl rfl ?_
  refine wp_cV0 0 0 [some _] dX12_page_1 tX12_pages rfl (by decide) nX12_pages vX12_pages lX12_255 ⟨by decide, by decide⟩ (Nat.le_of_ble_eq_true rfl) (mO ht.1.1) (Nat.le_of_ble_eq_true rfl) rfl ?_
  refine pX12_pages' ht.1 hd ?_
  intro _ _
  refine wp_istore_n (ls1 := [_, some _]) dX12_page_4 rfl (by decide) rfl ?_
  refine wp_iload_n dX12_page_5 rfl rfl ?_
  refine wp_bipush (v := (nI 6)) dX12_page_6 (by decide +kernel) ?_
  refine wp_icmp_neN dX12_page_8 rfl rfl ⟨by omega, by omega⟩ (fun c1 => absurd c6 c1) (fun c1 => ?_)
  refine wp_aload_n dX12_page_11 rfl rfl ?_
  refine wp_iconst (v := (nI 0)) dX12_page_12 (by decide +kernel) ?_
  refine wp_putI dX12_page_13 lX12_140 rfl (Or.inl rfl) (mO ht.1.1) rfl rfl ?_
  refine sealI (fun hh14 f14 e14 => ?_)
  have t14 := ht.tape f14 e14 (by omega)
  refine wp_iconst (v := (-1)) dX12_page_16 (by decide +kernel) ?_
  refine wp_ireturn dX12_page_17 rfl ?_
  exact h6 _ (f14.mM (by decide)) t14
set_option maxRecDepth 20000 in
theorem op_fault {L : Nat} {xs : Nat → Int32} (hL : L ≤ 3584) (c : Nat) (h : mH) (a1 : Int32) (hc : 7 * c + 7 ≤ L) (hI : inLw L xs c h) : Op2 mX11_fault mX12_fault 0 0 0 0 [some (.ref 0), some (.int a1)] [some (.ref 153), some (.int a1)] (inLw L xs (c + 1)) h := by
  obtain ⟨ow, F, pa, my, fa, o, a, u, r, pr, bx, kp, tp, t, tf, tl, n, w, C, q, ok, hb, hw, hk, hx⟩ := hI
  have hd := ok.1.1
  have hP6 := hd.w.1.2
  have hF4 := hd.f4
  obtain ⟨⟨_, _, _, _, _, _, _, zg⟩, ⟨_, _, _, _, _, _, _, _, zv⟩, ⟨_, _, zl⟩, ⟨_, _, zo⟩⟩ := C.cz
  unfold Op2
  refine pX11_fault C.zx ?_
  refine ⟨rfl, rfl, q.1.1.1, _, rfl, ?_⟩
  refine pX12_fault q.1.1 q.ff q.ll ?_
  exact ⟨rfl, inLw.fin C mFr.rf q ok hb (by omega) hk hx⟩
set_option maxRecDepth 20000 in
theorem op_field {L : Nat} {xs : Nat → Int32} (hL : L ≤ 3584) (c : Nat) (h : mH) (a1 a2 : Int32) (hc : 7 * c + 7 ≤ L) (hI : inLw L xs c h) : Op2 mX11_field mX12_field 3 66 3 66 [some (.ref 0), some (.int a1), some (.int a2), none, none] [some (.ref 153), some (.int a1), some (.int a2)] (inLw L xs (c + 1)) h := by
  obtain ⟨ow, F, pa, my, fa, o, a, u, r, pr, bx, kp, tp, t, tf, tl, n, w, C, q, ok, hb, hw, hk, hx⟩ := hI
  have hd := ok.1.1
  have hP6 := hd.w.1.2
  have hF4 := hd.f4
  obtain ⟨⟨_, _, _, _, _, _, _, zg⟩, ⟨_, _, _, _, _, _, _, _, zv⟩, ⟨_, _, zl⟩, ⟨_, _, zo⟩⟩ := C.cz
  unfold Op2
  refine pX11_field C.e9 hd ?_
  refine ⟨rfl, rfl, q.1.1.1, _, rfl, ?_⟩
  refine pX12_field q.1 hd ?_
  exact ⟨rfl, inLw.fin C mFr.rf q ok hb (by omega) hk hx⟩
set_option maxRecDepth 20000 in
theorem op_tokens {L : Nat} {xs : Nat → Int32} (hL : L ≤ 3584) (c : Nat) (h : mH) (a1 : Int32) (hc : 7 * c + 7 ≤ L) (hI : inLw L xs c h) : Op2 mX11_tokens mX12_tokens 3 63 2 43 [some (.ref 0), some (.int a1), none] [some (.ref 153), some (.int a1)] (inLw L xs (c + 1)) h := by
  obtain ⟨ow, F, pa, my, fa, o, a, u, r, pr, bx, kp, tp, t, tf, tl, n, w, C, q, ok, hb, hw, hk, hx⟩ := hI
  have hd := ok.1.1
  have hP6 := hd.w.1.2
  have hF4 := hd.f4
  obtain ⟨⟨_, _, _, _, _, _, _, zg⟩, ⟨_, _, _, _, _, _, _, _, zv⟩, ⟨_, _, zl⟩, ⟨_, _, zo⟩⟩ := C.cz
  unfold Op2
  refine pX11_tokens C.e9 hd ?_
  refine ⟨rfl, rfl, q.1.1.1, _, rfl, ?_⟩
  refine pX12_tokens q.1 hd ?_
  exact ⟨rfl, inLw.fin C mFr.rf q ok hb (by omega) hk hx⟩
set_option maxRecDepth 20000 in
theorem op_token {L : Nat} {xs : Nat → Int32} (hL : L ≤ 3584) (c : Nat) (h : mH) (a1 a2 a3 : Int32) (hc : 7 * c + 7 ≤ L) (hI : inLw L xs c h) : Op2 mX11_token mX12_token 3 63 4 88 [some (.ref 0), some (.int a1), some (.int a2), some (.int a3), none] [some (.ref 153), some (.int a1), some (.int a2), some (.int a3)] (inLw L xs (c + 1)) h := by
  obtain ⟨ow, F, pa, my, fa, o, a, u, r, pr, bx, kp, tp, t, tf, tl, n, w, C, q, ok, hb, hw, hk, hx⟩ := hI
  have hd := ok.1.1
  have hP6 := hd.w.1.2
  have hF4 := hd.f4
  obtain ⟨⟨_, _, _, _, _, _, _, zg⟩, ⟨_, _, _, _, _, _, _, _, zv⟩, ⟨_, _, zl⟩, ⟨_, _, zo⟩⟩ := C.cz
  unfold Op2
  refine pX11_token C.e9 hd ?_
  refine ⟨rfl, rfl, q.1.1.1, _, rfl, ?_⟩
  refine pX12_token q.1 hd (fun h2 f2 => ?_)
  exact ⟨rfl, inLw.fin C (f2.mM (by decide)) (q.fr f2) ok hb (by omega) hk hx⟩
set_option maxRecDepth 20000 in
theorem op_marked {L : Nat} {xs : Nat → Int32} (hL : L ≤ 3584) (c : Nat) (h : mH) (a1 a2 a3 a4 : Int32) (hc : 7 * c + 7 ≤ L) (hI : inLw L xs c h) : Op2 mX11_marked mX12_marked 4 93 2 44 [some (.ref 0), some (.int a1), some (.int a2), some (.int a3), some (.int a4), none, none] [some (.ref 153), some (.int a1), some (.int a2), some (.int a3), some (.int a4)] (inLw L xs (c + 1)) h := by
  obtain ⟨ow, F, pa, my, fa, o, a, u, r, pr, bx, kp, tp, t, tf, tl, n, w, C, q, ok, hb, hw, hk, hx⟩ := hI
  have hd := ok.1.1
  have hP6 := hd.w.1.2
  have hF4 := hd.f4
  obtain ⟨⟨_, _, _, _, _, _, _, zg⟩, ⟨_, _, _, _, _, _, _, _, zv⟩, ⟨_, _, zl⟩, ⟨_, _, zo⟩⟩ := C.cz
  unfold Op2
  refine pX11_marked C.e9 hd ?_
  refine ⟨rfl, rfl, q.1.1.1, _, rfl, ?_⟩
  refine pX12_marked q.1 hd ?_
  exact ⟨rfl, inLw.fin C mFr.rf q ok hb (by omega) hk hx⟩
set_option maxRecDepth 20000 in
theorem op_rule {L : Nat} {xs : Nat → Int32} (hL : L ≤ 3584) (c : Nat) (h : mH) (a1 a2 a3 : Int32) (hc : 7 * c + 7 ≤ L) (hI : inLw L xs c h) : Op2 mX11_rule mX12_rule 3 63 2 43 [some (.ref 0), some (.int a1), some (.int a2), some (.int a3), none] [some (.ref 153), some (.int a1), some (.int a2), some (.int a3), none, none] (inLw L xs (c + 1)) h := by
  obtain ⟨ow, F, pa, my, fa, o, a, u, r, pr, bx, kp, tp, t, tf, tl, n, w, C, q, ok, hb, hw, hk, hx⟩ := hI
  have hd := ok.1.1
  have hP6 := hd.w.1.2
  have hF4 := hd.f4
  obtain ⟨⟨_, _, _, _, _, _, _, zg⟩, ⟨_, _, _, _, _, _, _, _, zv⟩, ⟨_, _, zl⟩, ⟨_, _, zo⟩⟩ := C.cz
  unfold Op2
  refine pX11_rule C.e9 hd ?_
  refine ⟨rfl, rfl, q.1.1.1, _, rfl, ?_⟩
  refine pX12_rule q.1 hd ?_
  exact ⟨rfl, inLw.fin C mFr.rf q ok hb (by omega) hk hx⟩
set_option maxRecDepth 20000 in
theorem op_pattern {L : Nat} {xs : Nat → Int32} (hL : L ≤ 3584) (c : Nat) (h : mH) (a1 a2 : Int32) (hc : 7 * c + 7 ≤ L) (hI : inLw L xs c h) : Op2 mX11_pattern mX12_pattern 3 63 2 43 [some (.ref 0), some (.int a1), some (.int a2), none] [some (.ref 153), some (.int a1), some (.int a2)] (inLw L xs (c + 1)) h := by
  obtain ⟨ow, F, pa, my, fa, o, a, u, r, pr, bx, kp, tp, t, tf, tl, n, w, C, q, ok, hb, hw, hk, hx⟩ := hI
  have hd := ok.1.1
  have hP6 := hd.w.1.2
  have hF4 := hd.f4
  obtain ⟨⟨_, _, _, _, _, _, _, zg⟩, ⟨_, _, _, _, _, _, _, _, zv⟩, ⟨_, _, zl⟩, ⟨_, _, zo⟩⟩ := C.cz
  unfold Op2
  refine pX11_pattern C.e9 hd ?_
  refine ⟨rfl, rfl, q.1.1.1, _, rfl, ?_⟩
  refine pX12_pattern q.1 hd (fun {v2} e2 => ?_)
  exact ⟨congrArg (fun z => some (Value.int z)) e2.symm, inLw.fin C mFr.rf q ok hb (by omega) hk hx⟩
set_option maxRecDepth 20000 in
theorem op_about {L : Nat} {xs : Nat → Int32} (hL : L ≤ 3584) (c : Nat) (h : mH) (a1 : Int32) (hc : 7 * c + 7 ≤ L) (hI : inLw L xs c h) : Op2 mX11_about mX12_about 3 63 5 108 [some (.ref 0), some (.int a1), none] [some (.ref 153), some (.int a1)] (inLw L xs (c + 1)) h := by
  obtain ⟨ow, F, pa, my, fa, o, a, u, r, pr, bx, kp, tp, t, tf, tl, n, w, C, q, ok, hb, hw, hk, hx⟩ := hI
  have hd := ok.1.1
  have hP6 := hd.w.1.2
  have hF4 := hd.f4
  obtain ⟨⟨_, _, _, _, _, _, _, zg⟩, ⟨_, _, _, _, _, _, _, _, zv⟩, ⟨_, _, zl⟩, ⟨_, _, zo⟩⟩ := C.cz
  unfold Op2
  refine pX11_about C.e9 hd C.zx ?_
  refine ⟨rfl, rfl, q.1.1.1, _, rfl, ?_⟩
  refine pX12_about q.1 hd q.aa q.uu q.t9.1 (fun h2 f2 => ?_)
  exact ⟨rfl, inLw.fin C (f2.mM (by decide)) (q.fr f2) ok hb (by omega) hk hx⟩
set_option maxRecDepth 20000 in
theorem op_cut {L : Nat} {xs : Nat → Int32} (hL : L ≤ 3584) (c : Nat) (h : mH) (a1 a2 a3 a4 : Int32) (hc : 7 * c + 7 ≤ L) (hI : inLw L xs c h) : Op2 mX11_cut mX12_cut 6 146 8 198 [some (.ref 0), some (.int a1), some (.int a2), some (.int a3), some (.int a4)] [some (.ref 153), some (.int a1), some (.int a2), some (.int a3), some (.int a4)] (inLw L xs (c + 1)) h := by
  obtain ⟨ow, F, pa, my, fa, o, a, u, r, pr, bx, kp, tp, t, tf, tl, n, w, C, q, ok, hb, hw, hk, hx⟩ := hI
  have hd := ok.1.1
  have hP6 := hd.w.1.2
  have hF4 := hd.f4
  obtain ⟨⟨_, _, _, _, _, _, _, zg⟩, ⟨_, _, _, _, _, _, _, _, zv⟩, ⟨_, _, zl⟩, ⟨_, _, zo⟩⟩ := C.cz
  unfold Op2
  refine pX11_cut C.e9 hd zg (fun h1 f1 gg => ?_)
  obtain ⟨q1, k1, i1, o1⟩ := cfm C.kb q f1 (by decide)
  refine ⟨k1, i1, o1, _, rfl, ?_⟩
  have C1 := C.q (f1.up (by decide) (Nat.le_refl _)) (C.cz.g f1 (by decide) (by decide) (by decide) gg) (C.tw.fr f1 (fun j hj => by simp; omega)) (C.ti.fr f1 (by decide))
  refine pX12_cut q1.1 hd (fun {v2} h2 f2 e2 => ?_)
  exact ⟨congrArg (fun z => some (Value.int z)) e2.symm, inLw.fin C1 (f2.mM (by decide)) (q1.fr f2) ok hb (by omega) (k1.trans hk) (i1.trans hx)⟩
set_option maxRecDepth 20000 in
theorem op_by {L : Nat} {xs : Nat → Int32} (hL : L ≤ 3584) (c : Nat) (h : mH) (a1 a2 : Int32) (hc : 7 * c + 7 ≤ L) (hI : inLw L xs c h) : Op2 mX11_by mX12_by 6 146 8 198 [some (.ref 0), some (.int a1), some (.int a2)] [some (.ref 153), some (.int a1), some (.int a2)] (inLw L xs (c + 1)) h := by
  obtain ⟨ow, F, pa, my, fa, o, a, u, r, pr, bx, kp, tp, t, tf, tl, n, w, C, q, ok, hb, hw, hk, hx⟩ := hI
  have hd := ok.1.1
  have hP6 := hd.w.1.2
  have hF4 := hd.f4
  obtain ⟨⟨_, _, _, _, _, _, _, zg⟩, ⟨_, _, _, _, _, _, _, _, zv⟩, ⟨_, _, zl⟩, ⟨_, _, zo⟩⟩ := C.cz
  unfold Op2
  refine pX11_by C.e9 hd zg (fun h1 f1 gg => ?_)
  obtain ⟨q1, k1, i1, o1⟩ := cfm C.kb q f1 (by decide)
  refine ⟨k1, i1, o1, _, rfl, ?_⟩
  have C1 := C.q (f1.up (by decide) (Nat.le_refl _)) (C.cz.g f1 (by decide) (by decide) (by decide) gg) (C.tw.fr f1 (fun j hj => by simp; omega)) (C.ti.fr f1 (by decide))
  refine pX12_by (v := 0) q1.1 hd (fun {v2} h2 f2 e2 => ?_)
  exact ⟨congrArg (fun z => some (Value.int z)) e2.symm, inLw.fin C1 (f2.mM (by decide)) (q1.fr f2) ok hb (by omega) (k1.trans hk) (i1.trans hx)⟩
set_option maxRecDepth 20000 in
theorem op_right {L : Nat} {xs : Nat → Int32} (hL : L ≤ 3584) (c : Nat) (h : mH) (a1 : Int32) (hc : 7 * c + 7 ≤ L) (hI : inLw L xs c h) : Op2 mX11_right mX12_right 5 119 6 151 [some (.ref 0), some (.int a1), none, none, none, none, none] [some (.ref 153), some (.int a1), none, none] (inLw L xs (c + 1)) h := by
  obtain ⟨ow, F, pa, my, fa, o, a, u, r, pr, bx, kp, tp, t, tf, tl, n, w, C, q, ok, hb, hw, hk, hx⟩ := hI
  have hd := ok.1.1
  have hP6 := hd.w.1.2
  have hF4 := hd.f4
  obtain ⟨⟨_, _, _, _, _, _, _, zg⟩, ⟨_, _, _, _, _, _, _, _, zv⟩, ⟨_, _, zl⟩, ⟨_, _, zo⟩⟩ := C.cz
  unfold Op2
  refine pX11_right C.e9 hd zg (fun h1 f1 gg => ?_)
  obtain ⟨q1, k1, i1, o1⟩ := cfm C.kb q f1 (by decide)
  refine ⟨k1, i1, o1, _, rfl, ?_⟩
  have C1 := C.q (f1.up (by decide) (Nat.le_refl _)) (C.cz.g f1 (by decide) (by decide) (by decide) gg) (C.tw.fr f1 (fun j hj => by simp; omega)) (C.ti.fr f1 (by decide))
  refine pX12_right q1.1 hd (fun {v2} h2 f2 e2 => ?_)
  exact ⟨congrArg (fun z => some (Value.int z)) e2.symm, inLw.fin C1 (f2.mM (by decide)) (q1.fr f2) ok hb (by omega) (k1.trans hk) (i1.trans hx)⟩
set_option maxRecDepth 20000 in
theorem op_drift {L : Nat} {xs : Nat → Int32} (hL : L ≤ 3584) (c : Nat) (h : mH) (a1 a2 : Int32) (hc : 7 * c + 7 ≤ L) (hI : inLw L xs c h) : Op2 mX11_drift mX12_drift 7 170 9 220 [some (.ref 0), some (.int a1), some (.int a2)] [some (.ref 153), some (.int a1), some (.int a2)] (inLw L xs (c + 1)) h := by
  obtain ⟨ow, F, pa, my, fa, o, a, u, r, pr, bx, kp, tp, t, tf, tl, n, w, C, q, ok, hb, hw, hk, hx⟩ := hI
  have hd := ok.1.1
  have hP6 := hd.w.1.2
  have hF4 := hd.f4
  obtain ⟨⟨_, _, _, _, _, _, _, zg⟩, ⟨_, _, _, _, _, _, _, _, zv⟩, ⟨_, _, zl⟩, ⟨_, _, zo⟩⟩ := C.cz
  unfold Op2
  refine pX11_drift C.e9 hd zg (fun h1 f1 gg => ?_)
  obtain ⟨q1, k1, i1, o1⟩ := cfm C.kb q f1 (by decide)
  refine ⟨k1, i1, o1, _, rfl, ?_⟩
  have C1 := C.q (f1.up (by decide) (Nat.le_refl _)) (C.cz.g f1 (by decide) (by decide) (by decide) gg) (C.tw.fr f1 (fun j hj => by simp; omega)) (C.ti.fr f1 (by decide))
  refine pX12_drift q1.1 hd (fun {v2} h2 f2 e2 => ?_)
  exact ⟨congrArg (fun z => some (Value.int z)) e2.symm, inLw.fin C1 (f2.mM (by decide)) (q1.fr f2) ok hb (by omega) (k1.trans hk) (i1.trans hx)⟩
set_option maxRecDepth 20000 in
theorem op_strange {L : Nat} {xs : Nat → Int32} (hL : L ≤ 3584) (c : Nat) (h : mH) (a1 : Int32) (hc : 7 * c + 7 ≤ L) (hI : inLw L xs c h) : Op2 mX11_strange mX12_strange 7 170 9 220 [some (.ref 0), some (.int a1), none, none, none] [some (.ref 153), some (.int a1), none, none] (inLw L xs (c + 1)) h := by
  obtain ⟨ow, F, pa, my, fa, o, a, u, r, pr, bx, kp, tp, t, tf, tl, n, w, C, q, ok, hb, hw, hk, hx⟩ := hI
  have hd := ok.1.1
  have hP6 := hd.w.1.2
  have hF4 := hd.f4
  obtain ⟨⟨_, _, _, _, _, _, _, zg⟩, ⟨_, _, _, _, _, _, _, _, zv⟩, ⟨_, _, zl⟩, ⟨_, _, zo⟩⟩ := C.cz
  unfold Op2
  refine pX11_strange C.e9 hd zg (fun h1 f1 gg => ?_)
  obtain ⟨q1, k1, i1, o1⟩ := cfm C.kb q f1 (by decide)
  refine ⟨k1, i1, o1, _, rfl, ?_⟩
  have C1 := C.q (f1.up (by decide) (Nat.le_refl _)) (C.cz.g f1 (by decide) (by decide) (by decide) gg) (C.tw.fr f1 (fun j hj => by simp; omega)) (C.ti.fr f1 (by decide))
  refine pX12_strange q1.1 hd (fun {v2} h2 f2 e2 => ?_)
  exact ⟨congrArg (fun z => some (Value.int z)) e2.symm, inLw.fin C1 (f2.mM (by decide)) (q1.fr f2) ok hb (by omega) (k1.trans hk) (i1.trans hx)⟩
set_option maxRecDepth 20000 in
theorem op_tries {L : Nat} {xs : Nat → Int32} (hL : L ≤ 3584) (c : Nat) (h : mH) (a1 a2 a3 a4 a5 a6 : Int32) (hc : 7 * c + 7 ≤ L) (hI : inLw L xs c h) : Op2 mX11_tries mX12_tries 4 95 6 153 [some (.ref 0), some (.int a1), some (.int a2), some (.int a3), some (.int a4), some (.int a5), some (.int a6), none, none] [some (.ref 153), some (.int a1), some (.int a2), some (.int a3), some (.int a4), some (.int a5), some (.int a6)] (inLw L xs (c + 1)) h := by
  obtain ⟨ow, F, pa, my, fa, o, a, u, r, pr, bx, kp, tp, t, tf, tl, n, w, C, q, ok, hb, hw, hk, hx⟩ := hI
  have hd := ok.1.1
  have hP6 := hd.w.1.2
  have hF4 := hd.f4
  obtain ⟨⟨_, _, _, _, _, _, _, zg⟩, ⟨_, _, _, _, _, _, _, _, zv⟩, ⟨_, _, zl⟩, ⟨_, _, zo⟩⟩ := C.cz
  unfold Op2
  refine pX11_tries C.e9 hd zg (fun h1 f1 gg => ?_)
  obtain ⟨q1, k1, i1, o1⟩ := cfm C.kb q f1 (by decide)
  refine ⟨k1, i1, o1, _, rfl, ?_⟩
  have C1 := C.q (f1.up (by decide) (Nat.le_refl _)) (C.cz.g f1 (by decide) (by decide) (by decide) gg) (C.tw.fr f1 (fun j hj => by simp; omega)) (C.ti.fr f1 (by decide))
  refine pX12_tries q1.1 hd (fun h2 f2 => ?_)
  exact ⟨rfl, inLw.fin C1 (f2.mM (by decide)) (q1.fr f2) ok hb (by omega) (k1.trans hk) (i1.trans hx)⟩
set_option maxRecDepth 20000 in
theorem op_letter {L : Nat} {xs : Nat → Int32} (hL : L ≤ 3584) (c : Nat) (h : mH) (a1 a2 a3 : Int32) (hc : 7 * c + 7 ≤ L) (hI : inLw L xs c h) : Op2 mX11_letter mX12_letter 7 168 8 198 [some (.ref 0), some (.int a1), some (.int a2), some (.int a3)] [some (.ref 153), some (.int a1), some (.int a2), some (.int a3)] (inLw L xs (c + 1)) h := by
  obtain ⟨ow, F, pa, my, fa, o, a, u, r, pr, bx, kp, tp, t, tf, tl, n, w, C, q, ok, hb, hw, hk, hx⟩ := hI
  have hd := ok.1.1
  have hP6 := hd.w.1.2
  have hF4 := hd.f4
  obtain ⟨⟨_, _, _, _, _, _, _, zg⟩, ⟨_, _, _, _, _, _, _, _, zv⟩, ⟨_, _, zl⟩, ⟨_, _, zo⟩⟩ := C.cz
  unfold Op2
  refine pX11_letter C.e9 hd zg zl (fun h1 f1 gg ll => ?_)
  obtain ⟨q1, k1, i1, o1⟩ := cfm C.kb q f1 (by decide)
  refine ⟨k1, i1, o1, _, rfl, ?_⟩
  have C1 := C.q (f1.up (by decide) (Nat.le_refl _)) (C.cz.l3 f1 (by decide) (by decide) gg ll) (C.tw.fr f1 (fun j hj => by simp; omega)) (C.ti.fr f1 (by decide))
  refine pX12_letter q1.1 hd (fun {v2} h2 f2 e2 => ?_)
  exact ⟨congrArg (fun z => some (Value.int z)) e2.symm, inLw.fin C1 (f2.mM (by decide)) (q1.fr f2) ok hb (by omega) (k1.trans hk) (i1.trans hx)⟩
set_option maxRecDepth 20000 in
theorem op_alike {L : Nat} {xs : Nat → Int32} (hL : L ≤ 3584) (c : Nat) (h : mH) (a1 a2 : Int32) (hc : 7 * c + 7 ≤ L) (hI : inLw L xs c h) : Op2 mX11_alike mX12_alike 7 168 8 198 [some (.ref 0), some (.int a1), some (.int a2), none, none] [some (.ref 153), some (.int a1), some (.int a2), none, none, none, none] (inLw L xs (c + 1)) h := by
  obtain ⟨ow, F, pa, my, fa, o, a, u, r, pr, bx, kp, tp, t, tf, tl, n, w, C, q, ok, hb, hw, hk, hx⟩ := hI
  have hd := ok.1.1
  have hP6 := hd.w.1.2
  have hF4 := hd.f4
  obtain ⟨⟨_, _, _, _, _, _, _, zg⟩, ⟨_, _, _, _, _, _, _, _, zv⟩, ⟨_, _, zl⟩, ⟨_, _, zo⟩⟩ := C.cz
  unfold Op2
  refine pX11_alike C.e9 hd zg zl zo (fun h1 f1 gg ll => ?_)
  obtain ⟨q1, k1, i1, o1⟩ := cfm C.kb q f1 (by decide)
  refine ⟨k1, i1, o1, _, rfl, ?_⟩
  have C1 := C.q (f1.up (by decide) (Nat.le_refl _)) (C.cz.l4 f1 (by decide) gg ll) (C.tw.fr f1 (fun j hj => by simp; omega)) (C.ti.fr f1 (by decide))
  refine pX12_alike q1.1 hd (fun {v2} h2 f2 e2 => ?_)
  exact ⟨congrArg (fun z => some (Value.int z)) e2.symm, inLw.fin C1 (f2.mM (by decide)) (q1.fr f2) ok hb (by omega) (k1.trans hk) (i1.trans hx)⟩
set_option maxRecDepth 20000 in
theorem op_sturdy {L : Nat} {xs : Nat → Int32} (hL : L ≤ 3584) (c : Nat) (h : mH) (a1 a2 : Int32) (hc : 7 * c + 7 ≤ L) (hI : inLw L xs c h) : Op2 mX11_sturdy mX12_sturdy 7 168 8 198 [some (.ref 0), some (.int a1), some (.int a2), none, none, none, none] [some (.ref 153), some (.int a1), some (.int a2), none, none, none, none, none] (inLw L xs (c + 1)) h := by
  obtain ⟨ow, F, pa, my, fa, o, a, u, r, pr, bx, kp, tp, t, tf, tl, n, w, C, q, ok, hb, hw, hk, hx⟩ := hI
  have hd := ok.1.1
  have hP6 := hd.w.1.2
  have hF4 := hd.f4
  obtain ⟨⟨_, _, _, _, _, _, _, zg⟩, ⟨_, _, _, _, _, _, _, _, zv⟩, ⟨_, _, zl⟩, ⟨_, _, zo⟩⟩ := C.cz
  unfold Op2
  refine pX11_sturdy C.e9 hd zg zl zo (fun h1 f1 gg ll => ?_)
  obtain ⟨q1, k1, i1, o1⟩ := cfm C.kb q f1 (by decide)
  refine ⟨k1, i1, o1, _, rfl, ?_⟩
  have C1 := C.q (f1.up (by decide) (Nat.le_refl _)) (C.cz.l4 f1 (by decide) gg ll) (C.tw.fr f1 (fun j hj => by simp; omega)) (C.ti.fr f1 (by decide))
  refine pX12_sturdy q1.1 hd (fun {v2} h2 f2 e2 => ?_)
  exact ⟨congrArg (fun z => some (Value.int z)) e2.symm, inLw.fin C1 (f2.mM (by decide)) (q1.fr f2) ok hb (by omega) (k1.trans hk) (i1.trans hx)⟩
set_option maxRecDepth 20000 in
theorem op_could {L : Nat} {xs : Nat → Int32} (hL : L ≤ 3584) (c : Nat) (h : mH) (a1 a2 : Int32) (hc : 7 * c + 7 ≤ L) (hI : inLw L xs c h) : Op2 mX11_could mX12_could 7 185 7 178 [some (.ref 0), some (.int a1), some (.int a2), none] [some (.ref 153), some (.int a1), some (.int a2), none, none] (inLw L xs (c + 1)) h := by
  obtain ⟨ow, F, pa, my, fa, o, a, u, r, pr, bx, kp, tp, t, tf, tl, n, w, C, q, ok, hb, hw, hk, hx⟩ := hI
  have hd := ok.1.1
  have hP6 := hd.w.1.2
  have hF4 := hd.f4
  obtain ⟨⟨_, _, _, _, _, _, _, zg⟩, ⟨_, _, _, _, _, _, _, _, zv⟩, ⟨_, _, zl⟩, ⟨_, _, zo⟩⟩ := C.cz
  unfold Op2
  refine pX11_could C.e9 hd zg C.tw (by omega) (fun h1 ow1 u1 v f1 tw1 gg hv => ?_)
  obtain ⟨q1, k1, i1, o1⟩ := cfm C.kb q f1 (by decide)
  refine ⟨k1, i1, o1, _, rfl, ?_⟩
  have C1 := C.q (f1.up (by decide) (Nat.le_refl _)) (C.cz.g f1 (by decide) (by decide) (by decide) gg) tw1 (C.ti.fr f1 (by decide))
  refine pX12_could q1.1 hd (fun v2 h2 f2 s2 => ?_)
  exact ⟨by rw [hv v2 s2], inLw.fin C1 (f2.mM (by decide)) (q1.fr f2) ok hb (by omega) (k1.trans hk) (i1.trans hx)⟩
set_option maxRecDepth 20000 in
theorem op_cover {L : Nat} {xs : Nat → Int32} (hL : L ≤ 3584) (c : Nat) (h : mH) (a1 a2 : Int32) (hc : 7 * c + 7 ≤ L) (hI : inLw L xs c h) : Op2 mX11_cover mX12_cover 7 185 8 200 [some (.ref 0), some (.int a1), some (.int a2)] [some (.ref 153), some (.int a1), some (.int a2)] (inLw L xs (c + 1)) h := by
  obtain ⟨ow, F, pa, my, fa, o, a, u, r, pr, bx, kp, tp, t, tf, tl, n, w, C, q, ok, hb, hw, hk, hx⟩ := hI
  have hd := ok.1.1
  have hP6 := hd.w.1.2
  have hF4 := hd.f4
  obtain ⟨⟨_, _, _, _, _, _, _, zg⟩, ⟨_, _, _, _, _, _, _, _, zv⟩, ⟨_, _, zl⟩, ⟨_, _, zo⟩⟩ := C.cz
  unfold Op2
  refine pX11_cover C.e9 hd zg C.tw (by omega) zv (fun h1 ow1 u1 v f1 tw1 gg vv hv => ?_)
  obtain ⟨q1, k1, i1, o1⟩ := cfm C.kb q f1 (by decide)
  refine ⟨k1, i1, o1, _, rfl, ?_⟩
  have C1 := C.q (f1.up (by decide) (Nat.le_refl _)) (C.cz.gv f1 (by decide) (by decide) gg vv) tw1 (C.ti.fr f1 (by decide))
  refine pX12_cover q1.1 hd (fun v2 h2 f2 s2 => ?_)
  exact ⟨by rw [hv v2 s2], inLw.fin C1 (f2.mM (by decide)) (q1.fr f2) ok hb (by omega) (k1.trans hk) (i1.trans hx)⟩
set_option maxRecDepth 20000 in
theorem op_covers {L : Nat} {xs : Nat → Int32} (hL : L ≤ 3584) (c : Nat) (h : mH) (a1 a2 a3 : Int32) (hc : 7 * c + 7 ≤ L) (hI : inLw L xs c h) : Op2 mX11_covers mX12_covers 7 185 8 200 [some (.ref 0), some (.int a1), some (.int a2), some (.int a3), none, none] [some (.ref 153), some (.int a1), some (.int a2), some (.int a3), none] (inLw L xs (c + 1)) h := by
  obtain ⟨ow, F, pa, my, fa, o, a, u, r, pr, bx, kp, tp, t, tf, tl, n, w, C, q, ok, hb, hw, hk, hx⟩ := hI
  have hd := ok.1.1
  have hP6 := hd.w.1.2
  have hF4 := hd.f4
  obtain ⟨⟨_, _, _, _, _, _, _, zg⟩, ⟨_, _, _, _, _, _, _, _, zv⟩, ⟨_, _, zl⟩, ⟨_, _, zo⟩⟩ := C.cz
  unfold Op2
  refine pX11_covers C.e9 hd zg C.tw (by omega) zv (fun h1 ow1 u1 v f1 tw1 gg vv hv => ?_)
  obtain ⟨q1, k1, i1, o1⟩ := cfm C.kb q f1 (by decide)
  refine ⟨k1, i1, o1, _, rfl, ?_⟩
  have C1 := C.q (f1.up (by decide) (Nat.le_refl _)) (C.cz.gv f1 (by decide) (by decide) gg vv) tw1 (C.ti.fr f1 (by decide))
  refine pX12_covers q1.1 hd (fun v2 h2 f2 s2 => ?_)
  exact ⟨by rw [hv v2 s2], inLw.fin C1 (f2.mM (by decide)) (q1.fr f2) ok hb (by omega) (k1.trans hk) (i1.trans hx)⟩
set_option maxRecDepth 20000 in
theorem op_contradict {L : Nat} {xs : Nat → Int32} (hL : L ≤ 3584) (c : Nat) (h : mH) (a1 a2 a3 : Int32) (hc : 7 * c + 7 ≤ L) (hI : inLw L xs c h) : Op2 mX11_contradict mX12_contradict 7 185 7 178 [some (.ref 0), some (.int a1), some (.int a2), some (.int a3), none, none] [some (.ref 153), some (.int a1), some (.int a2), some (.int a3), none] (inLw L xs (c + 1)) h := by
  obtain ⟨ow, F, pa, my, fa, o, a, u, r, pr, bx, kp, tp, t, tf, tl, n, w, C, q, ok, hb, hw, hk, hx⟩ := hI
  have hd := ok.1.1
  have hP6 := hd.w.1.2
  have hF4 := hd.f4
  obtain ⟨⟨_, _, _, _, _, _, _, zg⟩, ⟨_, _, _, _, _, _, _, _, zv⟩, ⟨_, _, zl⟩, ⟨_, _, zo⟩⟩ := C.cz
  unfold Op2
  refine pX11_contradict C.e9 hd zg C.tw (by omega) zv (fun h1 ow1 u1 v f1 tw1 gg vv hv => ?_)
  obtain ⟨q1, k1, i1, o1⟩ := cfm C.kb q f1 (by decide)
  refine ⟨k1, i1, o1, _, rfl, ?_⟩
  have C1 := C.q (f1.up (by decide) (Nat.le_refl _)) (C.cz.gv f1 (by decide) (by decide) gg vv) tw1 (C.ti.fr f1 (by decide))
  refine pX12_contradict q1.1 hd (fun v2 h2 f2 s2 => ?_)
  exact ⟨by rw [hv v2 s2], inLw.fin C1 (f2.mM (by decide)) (q1.fr f2) ok hb (by omega) (k1.trans hk) (i1.trans hx)⟩
set_option maxRecDepth 20000 in
theorem op_without {L : Nat} {xs : Nat → Int32} (hL : L ≤ 3584) (c : Nat) (h : mH) (a1 a2 : Int32) (hc : 7 * c + 7 ≤ L) (hI : inLw L xs c h) : Op2 mX11_without mX12_without 7 185 7 178 [some (.ref 0), some (.int a1), some (.int a2), none] [some (.ref 153), some (.int a1), some (.int a2), none] (inLw L xs (c + 1)) h := by
  obtain ⟨ow, F, pa, my, fa, o, a, u, r, pr, bx, kp, tp, t, tf, tl, n, w, C, q, ok, hb, hw, hk, hx⟩ := hI
  have hd := ok.1.1
  have hP6 := hd.w.1.2
  have hF4 := hd.f4
  obtain ⟨⟨_, _, _, _, _, _, _, zg⟩, ⟨_, _, _, _, _, _, _, _, zv⟩, ⟨_, _, zl⟩, ⟨_, _, zo⟩⟩ := C.cz
  unfold Op2
  refine pX11_without C.e9 hd zg C.tw (by omega) zv (fun h1 ow1 u1 v f1 tw1 gg vv hv => ?_)
  obtain ⟨q1, k1, i1, o1⟩ := cfm C.kb q f1 (by decide)
  refine ⟨k1, i1, o1, _, rfl, ?_⟩
  have C1 := C.q (f1.up (by decide) (Nat.le_refl _)) (C.cz.gv f1 (by decide) (by decide) gg vv) tw1 (C.ti.fr f1 (by decide))
  refine pX12_without q1.1 hd (fun v2 h2 f2 s2 => ?_)
  exact ⟨by rw [hv v2 s2], inLw.fin C1 (f2.mM (by decide)) (q1.fr f2) ok hb (by omega) (k1.trans hk) (i1.trans hx)⟩
set_option maxRecDepth 20000 in
theorem op_enough {L : Nat} {xs : Nat → Int32} (hL : L ≤ 3584) (c : Nat) (h : mH) (a1 : Int32) (hc : 7 * c + 7 ≤ L) (hI : inLw L xs c h) : Op2 mX11_enough mX12_enough 7 185 7 178 [some (.ref 0), some (.int a1), none, none, none, none, none] [some (.ref 153), some (.int a1), none, none, none, none, none] (inLw L xs (c + 1)) h := by
  obtain ⟨ow, F, pa, my, fa, o, a, u, r, pr, bx, kp, tp, t, tf, tl, n, w, C, q, ok, hb, hw, hk, hx⟩ := hI
  have hd := ok.1.1
  have hP6 := hd.w.1.2
  have hF4 := hd.f4
  obtain ⟨⟨_, _, _, _, _, _, _, zg⟩, ⟨_, _, _, _, _, _, _, _, zv⟩, ⟨_, _, zl⟩, ⟨_, _, zo⟩⟩ := C.cz
  unfold Op2
  refine pX11_enough C.e9 hd zg C.tw (by omega) zv (fun h1 ow1 u1 v f1 tw1 gg vv hv => ?_)
  obtain ⟨q1, k1, i1, o1⟩ := cfm C.kb q f1 (by decide)
  refine ⟨k1, i1, o1, _, rfl, ?_⟩
  have C1 := C.q (f1.up (by decide) (Nat.le_refl _)) (C.cz.gv f1 (by decide) (by decide) gg vv) tw1 (C.ti.fr f1 (by decide))
  refine pX12_enough q1.1 hd (fun v2 h2 f2 s2 => ?_)
  exact ⟨by rw [hv v2 s2], inLw.fin C1 (f2.mM (by decide)) (q1.fr f2) ok hb (by omega) (k1.trans hk) (i1.trans hx)⟩
set_option maxRecDepth 20000 in
theorem op_stale {L : Nat} {xs : Nat → Int32} (hL : L ≤ 3584) (c : Nat) (h : mH) (a1 : Int32) (hc : 7 * c + 7 ≤ L) (hI : inLw L xs c h) : Op2 mX11_stale mX12_stale 8 208 8 200 [some (.ref 0), some (.int a1), none, none] [some (.ref 153), some (.int a1), none, none] (inLw L xs (c + 1)) h := by
  obtain ⟨ow, F, pa, my, fa, o, a, u, r, pr, bx, kp, tp, t, tf, tl, n, w, C, q, ok, hb, hw, hk, hx⟩ := hI
  have hd := ok.1.1
  have hP6 := hd.w.1.2
  have hF4 := hd.f4
  obtain ⟨⟨_, _, _, _, _, _, _, zg⟩, ⟨_, _, _, _, _, _, _, _, zv⟩, ⟨_, _, zl⟩, ⟨_, _, zo⟩⟩ := C.cz
  unfold Op2
  refine pX11_stale C.e9 hd zg C.tw (by omega) zv ok.1.2 (fun h1 ow1 u1 v f1 tw1 gg vv hv => ?_)
  obtain ⟨q1, k1, i1, o1⟩ := cfm C.kb q f1 (by decide)
  refine ⟨k1, i1, o1, _, rfl, ?_⟩
  have C1 := C.q (f1.up (by decide) (Nat.le_refl _)) (C.cz.gv f1 (by decide) (by decide) gg vv) tw1 (C.ti.fr f1 (by decide))
  refine pX12_stale q1.1 hd (fun v2 h2 f2 s2 => ?_)
  exact ⟨by rw [hv v2 s2], inLw.fin C1 (f2.mM (by decide)) (q1.fr f2) ok hb (by omega) (k1.trans hk) (i1.trans hx)⟩
set_option maxRecDepth 20000 in
theorem op_opinion {L : Nat} {xs : Nat → Int32} (hL : L ≤ 3584) (c : Nat) (h : mH) (a1 a2 a3 : Int32) (hc : 7 * c + 7 ≤ L) (hI : inLw L xs c h) : Op2 mX11_opinion mX12_opinion 8 210 9 222 [some (.ref 0), some (.int a1), some (.int a2), some (.int a3), none] [some (.ref 153), some (.int a1), some (.int a2), some (.int a3), none, none, none] (inLw L xs (c + 1)) h := by
  obtain ⟨ow, F, pa, my, fa, o, a, u, r, pr, bx, kp, tp, t, tf, tl, n, w, C, q, ok, hb, hw, hk, hx⟩ := hI
  have hd := ok.1.1
  have hP6 := hd.w.1.2
  have hF4 := hd.f4
  obtain ⟨⟨_, _, _, _, _, _, _, zg⟩, ⟨_, _, _, _, _, _, _, _, zv⟩, ⟨_, _, zl⟩, ⟨_, _, zo⟩⟩ := C.cz
  unfold Op2
  refine pX11_opinion C.e9 hd zg C.tw (by omega) C.ti (fun h1 ow1 u1 n1 v f1 tw1 gg ti1 hv => ?_)
  obtain ⟨q1, k1, i1, o1⟩ := cfm C.kb q f1 (by decide)
  refine ⟨k1, i1, o1, _, rfl, ?_⟩
  have C1 := C.q (f1.up (by decide) (Nat.le_refl _)) (C.cz.g f1 (by decide) (by decide) (by decide) gg) tw1 ti1
  refine pX12_opinion q1.1 hd (fun v2 h2 f2 s2 => ?_)
  exact ⟨by rw [hv v2 s2], inLw.fin C1 (f2.mM (by decide)) (q1.fr f2) ok hb (by omega) (k1.trans hk) (i1.trans hx)⟩
set_option maxRecDepth 20000 in
theorem op_proposed {L : Nat} {xs : Nat → Int32} (hL : L ≤ 3584) (c : Nat) (h : mH) (a1 a2 a3 a4 : Int32) (hc : 7 * c + 7 ≤ L) (hI : inLw L xs c h) : Op2 mX11_proposed mX12_proposed 9 233 10 246 [some (.ref 0), some (.int a1), some (.int a2), some (.int a3), some (.int a4), none] [some (.ref 153), some (.int a1), some (.int a2), some (.int a3), some (.int a4)] (inLw L xs (c + 1)) h := by
  obtain ⟨ow, F, pa, my, fa, o, a, u, r, pr, bx, kp, tp, t, tf, tl, n, w, C, q, ok, hb, hw, hk, hx⟩ := hI
  have hd := ok.1.1
  have hP6 := hd.w.1.2
  have hF4 := hd.f4
  obtain ⟨⟨_, _, _, _, _, _, _, zg⟩, ⟨_, _, _, _, _, _, _, _, zv⟩, ⟨_, _, zl⟩, ⟨_, _, zo⟩⟩ := C.cz
  unfold Op2
  refine pX11_proposed C.e9 hd zg C.tw (by omega) C.ti (fun h1 ow1 u1 n1 v f1 tw1 gg ti1 hv => ?_)
  obtain ⟨q1, k1, i1, o1⟩ := cfm C.kb q f1 (by decide)
  refine ⟨k1, i1, o1, _, rfl, ?_⟩
  have C1 := C.q (f1.up (by decide) (Nat.le_refl _)) (C.cz.g f1 (by decide) (by decide) (by decide) gg) tw1 ti1
  refine pX12_proposed q1.1 hd (fun v2 h2 f2 s2 => ?_)
  exact ⟨by rw [hv v2 s2], inLw.fin C1 (f2.mM (by decide)) (q1.fr f2) ok hb (by omega) (k1.trans hk) (i1.trans hx)⟩
set_option maxRecDepth 20000 in
theorem op_next {L : Nat} {xs : Nat → Int32} (hL : L ≤ 3584) (c : Nat) (h : mH) (a1 : Int32) (hc : 7 * c + 7 ≤ L) (hI : inLw L xs c h) : Op2 mX11_next mX12_next 8 210 9 222 [some (.ref 0), some (.int a1), none, none, none, none] [some (.ref 153), some (.int a1), none, none, none] (inLw L xs (c + 1)) h := by
  obtain ⟨ow, F, pa, my, fa, o, a, u, r, pr, bx, kp, tp, t, tf, tl, n, w, C, q, ok, hb, hw, hk, hx⟩ := hI
  have hd := ok.1.1
  have hP6 := hd.w.1.2
  have hF4 := hd.f4
  obtain ⟨⟨_, _, _, _, _, _, _, zg⟩, ⟨_, _, _, _, _, _, _, _, zv⟩, ⟨_, _, zl⟩, ⟨_, _, zo⟩⟩ := C.cz
  unfold Op2
  refine pX11_next C.e9 hd zg C.tw (by omega) C.ti (fun h1 ow1 u1 n1 v f1 tw1 gg ti1 hv => ?_)
  obtain ⟨q1, k1, i1, o1⟩ := cfm C.kb q f1 (by decide)
  refine ⟨k1, i1, o1, _, rfl, ?_⟩
  have C1 := C.q (f1.up (by decide) (Nat.le_refl _)) (C.cz.g f1 (by decide) (by decide) (by decide) gg) tw1 ti1
  refine pX12_next q1.1 hd (fun v2 h2 f2 s2 => ?_)
  exact ⟨by rw [hv v2 s2], inLw.fin C1 (f2.mM (by decide)) (q1.fr f2) ok hb (by omega) (k1.trans hk) (i1.trans hx)⟩
