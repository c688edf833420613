/-! ===== all that the class holds between calls ===== -/
def bxR (ow : Nat → Nat) (h : mH) (bx : Nat → Nat → Int64) (kp : Nat → Int32) : Prop := hA h 107 17 2 ∧ ow 107 = 9 ∧ ∀ b, b < 2 → (kp b = 0 → hR h 107 b = none) ∧ (¬ kp b = 0 → ∃ q, hR h 107 b = some q ∧ stX ow h q (40 + b) (bx b))
/-- a byte of the tape: the class holds it signed -/
def tpR (ow : Nat → Nat) (h : mH) (tp : Nat → Int32) (t : Nat) : Prop := hA h 1 13 900 ∧ ow 1 = 6 ∧ ∀ j, j < t → ∃ b, b < 256 ∧ tp j = nI b ∧ hI h 1 j = (if b < 128 then nI b else nI b - nI 256)
def rdR (ow : Nat → Nat) (h : mH) : Prop := (∃ rc rp rq rf rl rx rn ra rb rk rw, zR ow h rc rp rq rf rl rx rn ra rb rk rw) ∧ ∀ p, p < 6 → hA h (8 + p) 15 40 ∧ ow (8 + p) = 19
def cZ (ow : Nat → Nat) (h : mH) : Prop := (∃ pl gb ge gs gn gf gt, zG ow h pl gb ge gs gn gf gt) ∧ (∃ v0 v1 v2 v3 v4 vc vk vh, zV ow h v0 v1 v2 v3 v4 vc vk vh) ∧ (∃ lb lc, zL ow h 121 3 lb lc) ∧ ∃ lb lc, zL ow h 123 4 lb lc
def cC (ow : Nat → Nat) (h : mH) (F : Nat) (pa my : Nat → Int32) (fa o a u : Nat) (r : Nat → Int64) (pr : Nat → Nat → Int64) (bx : Nat → Nat → Int64) (kp tp : Nat → Int32) (t : Nat) (tf tl : Int32) (n w : Nat) : Prop := zX ow h (nI t) tf tl (some fa) ∧ zH ow h (nI o) (nI a) (nI u) ∧ kB ow h ∧ flR ow h fa F pa my ∧ rgR ow h o a u r pr ∧ (o < 17 ∧ a + u ≤ 16) ∧ bxR ow h bx kp ∧ tpR ow h tp t ∧ rdR ow h ∧ cZ ow h ∧ tbW ow h r pa my F (7 * (20480 - n)) w ∧ tyI ow h r pa my F n
/-- the findings, whatever they say -/
def tbF (ow : Nat → Nat) (h : mH) (n w : Nat) : Prop := (∃ nn mm : Nat → Nat, (∀ f, f < 4 → tab0 ow h f (nn f) (mm f) 0) ∧ hU h + 8 * hN h + ptl nn mm + 7 * (20480 - n) ≤ w) ∧ (64 ≤ n ∧ n ≤ 20480) ∧ ∃ a3 a4 a5 yp yf yc y3 y4 y5, zY ow h n a3 a4 a5 yp yf yc y3 y4 y5
section
variable {S : List Nat} {u9 : Nat} {ow ow' : Nat → Nat} {h h' : mH} {F : Nat} {pa my : Nat → Int32} {fa o a u : Nat} {r : Nat → Int64} {pr : Nat → Nat → Int64} {bx : Nat → Nat → Int64} {kp tp : Nat → Int32} {t : Nat} {tf tl : Int32} {n w : Nat}
theorem bxR.fr (g : bxR ow h bx kp) (f : cFr S u9 ow h ow' h') (h0 : 0 ∉ S) (h1 : 9 ∉ S) (h2 : 40 ∉ S) (h3 : 41 ∉ S) : bxR ow' h' bx kp := by
  obtain ⟨a, b, c⟩ := g
  have s0 := (f.s a.1 b h1).2.2
  refine ⟨f.a a, (f.w a.1).trans b, fun k hk => ⟨fun e => (congrFun s0 k).trans ((c k hk).1 e), fun e => ?_⟩⟩
  obtain ⟨q, e1, e2⟩ := (c k hk).2 e
  exact ⟨q, (congrFun s0 k).trans e1, e2.fr f h0 (by rcases (by omega : k = 0 ∨ k = 1) with e | e <;> subst e <;> assumption)⟩
theorem tpR.fr (g : tpR ow h tp t) (f : cFr S u9 ow h ow' h') (h1 : 6 ∉ S) : tpR ow' h' tp t := by
  obtain ⟨a, b, c⟩ := g
  have s0 := (f.s a.1 b h1).1
  refine ⟨f.a a, (f.w a.1).trans b, fun k hk => ?_⟩
  obtain ⟨x, e1, e2, e3⟩ := c k hk
  exact ⟨x, e1, e2, (congrFun s0 k).trans e3⟩
theorem rdR.fr (g : rdR ow h) (f : cFr S u9 ow h ow' h') (h1 : 5 ∉ S) : rdR ow' h' := by
  obtain ⟨⟨rc, rp, rq, rf, rl, rx, rn, ra, rb, rk, rw, z⟩, g2⟩ := g
  refine ⟨⟨rc, rp, rq, rf, rl, rx, rn, ra, rb, rk, rw, z.fr f h1⟩, fun p hp => ?_⟩
  exact ⟨f.a (g2 p hp).1, (f.w (g2 p hp).1.1).trans (g2 p hp).2⟩
theorem cZ.fr (g : cZ ow h) (f : cFr S u9 ow h ow' h') (h1 : 1 ∉ S) (h2 : 2 ∉ S) (h3 : 3 ∉ S) (h4 : 4 ∉ S) : cZ ow' h' := by
  obtain ⟨⟨_, _, _, _, _, _, _, g1⟩, ⟨_, _, _, _, _, _, _, _, g2⟩, ⟨_, _, g3⟩, ⟨_, _, g4⟩⟩ := g
  exact ⟨⟨_, _, _, _, _, _, _, g1.fr f h1⟩, ⟨_, _, _, _, _, _, _, _, g2.fr f h2⟩, ⟨_, _, g3.fr f h3⟩, ⟨_, _, g4.fr f h4⟩⟩
theorem cC.zx (c : cC ow h F pa my fa o a u r pr bx kp tp t tf tl n w) : zX ow h (nI t) tf tl (some fa) := c.1
theorem cC.zh (c : cC ow h F pa my fa o a u r pr bx kp tp t tf tl n w) : zH ow h (nI o) (nI a) (nI u) := c.2.1
theorem cC.kb (c : cC ow h F pa my fa o a u r pr bx kp tp t tf tl n w) : kB ow h := c.2.2.1
theorem cC.fl (c : cC ow h F pa my fa o a u r pr bx kp tp t tf tl n w) : flR ow h fa F pa my := c.2.2.2.1
theorem cC.rg (c : cC ow h F pa my fa o a u r pr bx kp tp t tf tl n w) : rgR ow h o a u r pr := c.2.2.2.2.1
theorem cC.od (c : cC ow h F pa my fa o a u r pr bx kp tp t tf tl n w) : o < 17 ∧ a + u ≤ 16 := c.2.2.2.2.2.1
theorem cC.bxx (c : cC ow h F pa my fa o a u r pr bx kp tp t tf tl n w) : bxR ow h bx kp := c.2.2.2.2.2.2.1
theorem cC.tpp (c : cC ow h F pa my fa o a u r pr bx kp tp t tf tl n w) : tpR ow h tp t := c.2.2.2.2.2.2.2.1
theorem cC.rd (c : cC ow h F pa my fa o a u r pr bx kp tp t tf tl n w) : rdR ow h := c.2.2.2.2.2.2.2.2.1
theorem cC.cz (c : cC ow h F pa my fa o a u r pr bx kp tp t tf tl n w) : cZ ow h := c.2.2.2.2.2.2.2.2.2.1
theorem cC.tw (c : cC ow h F pa my fa o a u r pr bx kp tp t tf tl n w) : tbW ow h r pa my F (7 * (20480 - n)) w := c.2.2.2.2.2.2.2.2.2.2.1
theorem cC.ti (c : cC ow h F pa my fa o a u r pr bx kp tp t tf tl n w) : tyI ow h r pa my F n := c.2.2.2.2.2.2.2.2.2.2.2
theorem cC.e9 (c : cC ow h F pa my fa o a u r pr bx kp tp t tf tl n w) : eS ow h F pa my r fa o a u := ⟨⟨_, _, _, c.zx⟩, c.zh, c.kb, c.fl, c.rg.st.1, c.od.1, by have := c.od.2; omega⟩
theorem tbF.of (g : tbW ow h r pa my F (7 * (20480 - n)) w) (g2 : tyI ow h r pa my F n) : tbF ow h n w := by
  obtain ⟨nn, mm, h1, h2⟩ := g
  obtain ⟨hn, h3⟩ := g2
  refine ⟨⟨nn, mm, fun f hf => (h1 f hf).t0, h2⟩, hn, ?_⟩
  rcases h3 with ⟨a3, a4, a5, yf, yc, y3, y4, y5, z⟩ | ⟨p, f, _, _, a3, a4, a5, y3, y4, y5, N, OL, V, FK, T, z, _⟩
  · exact ⟨_, _, _, _, _, _, _, _, _, z⟩
  · exact ⟨_, _, _, _, _, _, _, _, _, z⟩
theorem tbF.fr (g : tbF ow h n w) (f : cFr S u9 ow h ow' h') (h0 : 10 ∉ S) (h1 : ∀ f9, f9 < 4 → 11 + f9 ∉ S) : tbF ow' h' n (w + u9) := by
  obtain ⟨⟨nn, mm, g1, g2⟩, hn, _, _, _, _, _, _, _, _, _, z⟩ := g
  have := f.1.2.2
  exact ⟨⟨nn, mm, fun f9 hf => (g1 f9 hf).fr f (h1 f9 hf), by omega⟩, hn, _, _, _, _, _, _, _, _, _, z.fr f h0⟩
theorem tbF.up {w' : Nat} (g : tbF ow h n w) (hw : w ≤ w') : tbF ow h n w' := by
  obtain ⟨⟨nn, mm, g1, g2⟩, hn, z⟩ := g
  exact ⟨⟨nn, mm, g1, by omega⟩, hn, z⟩
end
/-- the findings forgotten: they hold of any row -/
theorem forgetAll {h : mH} {Q : Option Value → mH → Prop} {ow : Nat → Nat} {xt xf xp : Int32} {xq : Option Nat} {n w : Nat} (zx : zX ow h xt xf xp xq) (kb : kB ow h) (g : tbF ow h n w) (hq : ∀ h', cFr [10, 11, 12, 13, 14] 0 ow h ow h' → (∀ r pa my F, tbW ow h' r pa my F (7 * (20480 - n)) w ∧ tyI ow h' r pa my F n) → Q none h') : Wp mX11_forgetFindings 1 20 0 [some (.ref 0), none] [] h Q := by
  obtain ⟨⟨nn, mm, g1, g2⟩, hn, a3, a4, a5, yp, yf, yc, y3, y4, y5, z⟩ := g
  refine pX11_forgetFindings zx kb z g1 (fun h' f zy ht => hq h' f (fun r pa my F => ⟨⟨nn, mm, fun f9 hf => (ht f9 hf).I hf, ?_⟩, hn, Or.inl ⟨_, _, _, _, _, _, _, _, zy⟩⟩))
  have := f.1.2.2
  omega
/-- behind an act -/
theorem cC.act {ow : Nat → Nat} {h h' : mH} {F : Nat} {pa my : Nat → Int32} {fa o a u : Nat} {r : Nat → Int64} {pr : Nat → Nat → Int64} {bx : Nat → Nat → Int64} {kp tp : Nat → Int32} {t : Nat} {tf tl : Int32} {n w : Nat} {o' a' u' : Nat} {r' : Nat → Int64} {pr' : Nat → Nat → Int64} (c : cC ow h F pa my fa o a u r pr bx kp tp t tf tl n w) (f : cFr [8, 10, 11, 12, 13, 14, 20, 21, 22, 23, 24, 25, 26, 27, 28, 29, 30, 31, 32, 33, 34, 35, 36] 0 ow h ow h') (zh : zH ow h' (nI o') (nI a') (nI u')) (rg : rgR ow h' o' a' u' r' pr') (hb : o' < 17 ∧ a' + u' ≤ 16) (g : ∀ r pa my F, tbW ow h' r pa my F (7 * (20480 - n)) w ∧ tyI ow h' r pa my F n) : cC ow h' F pa my fa o' a' u' r' pr' bx kp tp t tf tl n w :=
  ⟨c.zx.fr f (by decide), zh, c.kb.fr f (by decide) (by decide), c.fl.fr f (by decide), rg, hb, c.bxx.fr f (by decide) (by decide) (by decide) (by decide), c.tpp.fr f (by decide), c.rd.fr f (by decide), c.cz.fr f (by decide) (by decide) (by decide) (by decide), (g _ _ _ _).1, (g _ _ _ _).2⟩
