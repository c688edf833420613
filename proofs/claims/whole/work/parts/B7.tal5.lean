/-! ===== votes of a page for a field ===== -/
def opC (r : Nat → Int64) (pa my : Nat → Int32) (p f N : Nat) (OL : Nat → List (Nat × Nat)) (V FK : Nat → Nat) : Prop := ∃ c K O, ruS r pa f c K O ∧ cvI (fun i => gdB r pa my f (exE r f) (K i)) (fun i => vtL r pa my p f (K i)) K c N OL V FK
/-- the tally of a page for a field -/
def tyT (ow : Nat → Nat) (h : mH) (r : Nat → Int64) (pa my : Nat → Int32) (p f n : Nat) : Prop := ∃ a3 a4 a5 y3 y4 y5 N OL V FK T, zY ow h n a3 a4 a5 (nI p) (nI f) (nI N) y3 y4 y5 ∧ (N ≤ n ∧ n ≤ 20480) ∧ T ≤ rT r p ∧ tyV y3 y4 y5 N OL V T ∧ opC r pa my p f N OL V FK
theorem tyT.fr {S : List Nat} {u : Nat} {ow ow' : Nat → Nat} {h h' : mH} {r : Nat → Int64} {pa my : Nat → Int32} {p f n : Nat} (g : tyT ow h r pa my p f n) (f9 : cFr S u ow h ow' h') (hs : 10 ∉ S) : tyT ow' h' r pa my p f n := by
  obtain ⟨a3, a4, a5, y3, y4, y5, N, OL, V, FK, T, z, hz⟩ := g
  exact ⟨a3, a4, a5, y3, y4, y5, N, OL, V, FK, T, z.fr f9 hs, hz⟩
/-- the tally between questions -/
def tyI (ow : Nat → Nat) (h : mH) (r : Nat → Int64) (pa my : Nat → Int32) (F n : Nat) : Prop := (64 ≤ n ∧ n ≤ 20480) ∧ ((∃ a3 a4 a5 yf yc y3 y4 y5, zY ow h n a3 a4 a5 (-1) yf yc y3 y4 y5) ∨ ∃ p f, p < rP r ∧ f < F ∧ tyT ow h r pa my p f n)
theorem tbW.be {ow : Nat → Nat} {h : mH} {r : Nat → Int64} {pa my : Nat → Int32} {F e w : Nat} (g : tbW ow h r pa my F e w) : hU h + 8 * hN h + e ≤ w := by
  obtain ⟨n, m, h2, h3⟩ := g
  omega
theorem tbW.sw {ow : Nat → Nat} {h : mH} {r : Nat → Int64} {pa my : Nat → Int32} {F e e' w w' : Nat} (g : tbW ow h r pa my F e w) (hw : w + e' ≤ w' + e) : tbW ow h r pa my F e' w' := by
  obtain ⟨n, m, h2, h3⟩ := g
  exact ⟨n, m, h2, by omega⟩
theorem ru_cd {r : Nat → Int64} {F : Nat} {pa my : Nat → Int32} {f c : Nat} {K O : Nat → Nat} (hd : sOK r F pa my) (hf : f < F) (g : ruS r pa f c K O) : ∀ i, i < c → ∀ w, w < 4 → kI (K i) w ≤ 243 := fun i hi => by
  obtain ⟨p, h1, h2⟩ := g.2.2.2 i hi
  have h3 := exE_tb h1
  exact (cod_it (bNr_cod hd hf h3.1 h3.2 h2)).2
theorem cut_00 {P : Int32 → Nat → Bool} {k n : Nat} : cutK P 0 k n 0 = [] := by
  have h := (srt_cut (P := P) (b := 0) (far := itm (kI k 0)) (near := itm (kI k 1)) (sec := itm (kI k 2)) (stop := itm (kI k 3)) n 0 (Nat.le_refl 0)).1
  cases e : cutK P 0 k n 0 with
  | nil => rfl
  | cons x t =>
    have h : srt (cutK P 0 k n 0) 0 := h
    rw [e] at h
    have := h 0 (by rw [List.length_cons]; omega)
    omega
theorem vt_1 {r : Nat → Int64} {pa my : Nat → Int32} {p f : Nat} (h : pa f = -1) : ∀ k, cutK (pmR r p (-1)) (rT r p) k (mzN (my f)) 0 = vtL r pa my p f k := fun k => by
  unfold vtL rgX
  rw [if_pos h]
theorem vt_2 {r : Nat → Int64} {pa my : Nat → Int32} {p f g : Nat} (hg : g < 4) (h : pa f = nI g) (hc : cuX r pa my p (-1) g = none) : ∀ k, cutK (pmR r p (-1)) 0 k (mzN (my f)) 0 = vtL r pa my p f k := fun k => by
  unfold vtL rgX
  rw [if_neg (by rw [h]; exact nI_ne_m1 (by omega)), h, nOfI_nI (by omega), hc, cut_00]
theorem vt_3 {r : Nat → Int64} {pa my : Nat → Int32} {p f g : Nat} {x : Nat × List (Nat × Nat)} (hg : g < 4) (h : pa f = nI g) (hc : cuX r pa my p (-1) g = some x) : ∀ k, cutK (pmR r p (-1)) (hd2 x.2).2 k (mzN (my f)) (hd2 x.2).1 = vtL r pa my p f k := fun k => by
  unfold vtL rgX
  rw [if_neg (by rw [h]; exact nI_ne_m1 (by omega)), h, nOfI_nI (by omega), hc]
set_option maxRecDepth 20000 in
theorem votesC_tail {h : mH} {Q : Option Value → mH → Prop} {ow : Nat → Nat} {F fa o1 d1 u1 : Nat} {pa my : Nat → Int32} {r : Nat → Int64} {p f n nt m c w : Nat} {K O : Nat → Nat} {pl : Nat → Int64} {a0 ee len : Nat} {gs gn : Int64} {gf gt : Int32} {b3 b4 b5 : Nat} {yp yf yc : Int32} {z3 z4 : Nat → Int64} {z5 : Nat → Int32} {l4 l5 : Option Value} (e9 : eS ow h F pa my r fa o1 d1 u1) (hd : sOK r F pa my) (tw : tbW ow h r pa my F (7 * (20480 - n)) w) (hw : w ≤ 8000000) (hp : p < rP r) (hf : f < F) (hn : 64 ≤ n ∧ n ≤ 20480) (tb : tbR ow h (125 + 7 * f) (11 + f) (nI 1) r pa my f nt m c K O) (zy : zY ow h n b3 b4 b5 yp yf yc z3 z4 z5) (zg : zG ow h pl (nI a0) (nI ee) gs gn gf gt) (hP : gP pl (pmR r p (-1)) len) (he : ee ≤ len) (hlen : len ≤ 40) (ha : a0 ≤ ee) (heT : ee ≤ rT r p) (hlk : ∀ k, cutK (pmR r p (-1)) ee k (mzN (my f)) a0 = vtL r pa my p f k) (hq : ∀ h' ow' u n', cFr [1, 10, 11, 12, 13, 14] u ow h ow' h' → eS ow' h' F pa my r fa o1 d1 u1 → tbW ow' h' r pa my F (7 * (20480 - n')) w → (∃ pl gb ge gs gn gf gt, zG ow' h' pl gb ge gs gn gf gt) → (64 ≤ n' ∧ n' ≤ 20480) → tyT ow' h' r pa my p f n' → Q none h') : Wp mX11_countVotes 7 185 132 [some (.ref 0), some (.int (nI p)), some (.int (nI f)), some (.ref (125 + 7 * f)), l4, l5] [] h Q := by
  have hP6 := hd.w.1.2
  have hF4 := hd.f4
  obtain ⟨tv9, ru9⟩ := tb.V
  refine wp_aload_n dX11_countVotes_132 rfl rfl ?_
  refine wp_getR dX11_countVotes_133 lX11_67 rfl e9.oo e9.r11 ?_
  refine wp_aload_n dX11_countVotes_136 rfl rfl ?_
  refine wp_aload_n dX11_countVotes_137 rfl rfl ?_
  refine wp_getR dX11_countVotes_138 lX11_60 rfl e9.oo e9.r10 ?_
  refine wp_aload_n dX11_countVotes_141 rfl rfl ?_
  refine wp_getR dX11_countVotes_142 lX11_20 rfl e9.oo e9.f4 ?_
  refine wp_getR dX11_countVotes_145 lX11_150 rfl e9.fl.oo e9.fl.r2 ?_
  refine wp_iload_n dX11_countVotes_148 rfl rfl ?_
  refine wp_zaldV dX11_countVotes_149 e9.fl.a2 rfl ⟨by omega, by omega⟩ (e9.fl.c2 (by omega)) ?_
  refine wp_cV3 4 95 [some _, some _, some _, some _, none] dX11_countVotes_150 tX10_countAll rfl (by decide) nX10_countAll vX10_countAll lX11_428 ⟨by decide, by decide⟩ (Nat.le_of_ble_eq_true rfl) zy.o (Nat.le_of_ble_eq_true rfl) rfl ?_
  refine pX10_countAll zy hn (by have := tw.be; omega) tv9 (by omega) (ru_c hd (by omega) ru9) ru9.1 (ru_cd hd hf ru9) zg hP he hlen ha (hd.my f (by omega)) (fun hh1 ow1 n1 c31 c41 c51 y31 y41 y51 N1 OL1 V1 FK1 gs1 gn1 gf1 gt1 f1 hn1 zy_1 zg_1 ty1 cv1 => ?_)
  intro _ _
  have e9_1 := e9.fr f1 (by decide)
  have tw_1 := (tw.fr f1 (fun f9 hf9 => by simp <;> omega)).sw (e' := 7 * (20480 - n1)) (w' := w) (by omega)
  refine wp_aload_n dX11_countVotes_153 rfl rfl ?_
  refine wp_getR dX11_countVotes_154 lX11_67 rfl e9_1.oo e9_1.r11 ?_
  refine wp_iload_n dX11_countVotes_157 rfl rfl ?_
  refine wp_putI dX11_countVotes_158 lX11_422 rfl (Or.inl rfl) zy_1.o rfl rfl ?_
  refine zy_1.p0 (fun hh2 f2 zy_2 => ?_)
  have e9_2 := e9_1.fr f2 (by decide)
  have zg_2 := zg_1.fr f2 (rnS (by omega) rn0)
  have tw_2 := tw_1.fr f2 (fun f9 hf9 => by simp <;> omega)
  refine wp_aload_n dX11_countVotes_161 rfl rfl ?_
  refine wp_getR dX11_countVotes_162 lX11_67 rfl e9_2.oo e9_2.r11 ?_
  refine wp_iload_n dX11_countVotes_165 rfl rfl ?_
  refine wp_putI dX11_countVotes_166 lX11_425 rfl (Or.inl rfl) zy_2.o rfl rfl ?_
  refine zy_2.p1 (fun hh3 f3 zy_3 => ?_)
  have e9_3 := e9_2.fr f3 (by decide)
  have zg_3 := zg_2.fr f3 (rnS (by omega) rn0)
  have tw_3 := tw_2.fr f3 (fun f9 hf9 => by simp <;> omega)
  refine wp_vreturn dX11_countVotes_169 rfl ?_
  refine hq _ _ _ n1 (((f1.up (by decide) (Nat.le_refl _)).tr (f2.up (by decide) (Nat.le_refl _))).tr (f3.up (by decide) (Nat.le_refl _))) e9_3 tw_3 ⟨_, _, _, _, _, _, _, zg_3⟩ (by omega) ⟨_, _, _, _, _, _, N1, OL1, V1, FK1, ee, zy_3, by omega, heT, ty1, c, K, O, ru9, ?_⟩
  rw [show (fun i => vtL r pa my p f (K i)) = (fun i => cutK (pmR r p (-1)) ee (K i) (mzN (my f)) a0) from funext fun i => (hlk (K i)).symm]
  exact cv1
