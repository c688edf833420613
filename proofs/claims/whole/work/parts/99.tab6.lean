/-! ===== all rules by an example ===== -/
theorem bF_far {r : Nat → Int64} {pa : Nat → Int32} {f p e b c key : Nat} : bF r pa f p e b c key ↔ farS r p (rgA r pa f p) e b c 0 key ∨ (rB r f p 0 < rgB r pa f p ∧ (farS r p (rgA r pa f p) e b c (asC r p (rB r f p 0) 0) key ∨ farS r p (rgA r pa f p) e b c (asC r p (rB r f p 0) 1) key)) := by
  unfold bF bS farS
  constructor
  · rintro ((h | ⟨h1, w, h2, h3⟩) | ⟨k, k1, k2, v, k3, h | ⟨h1, w, h2, h3⟩⟩)
    · exact Or.inl (Or.inl h)
    · rcases (by omega : w = 0 ∨ w = 1) with rfl | rfl
      · exact Or.inr ⟨h1, Or.inl (Or.inl h3)⟩
      · exact Or.inr ⟨h1, Or.inr (Or.inl h3)⟩
    · exact Or.inl (Or.inr ⟨k, k1, k2, v, k3, h⟩)
    · rcases (by omega : w = 0 ∨ w = 1) with rfl | rfl
      · exact Or.inr ⟨h1, Or.inl (Or.inr ⟨k, k1, k2, v, k3, h3⟩)⟩
      · exact Or.inr ⟨h1, Or.inr (Or.inr ⟨k, k1, k2, v, k3, h3⟩)⟩
  · rintro ((h | ⟨k, k1, k2, v, k3, h⟩) | ⟨h1, (h | ⟨k, k1, k2, v, k3, h⟩) | (h | ⟨k, k1, k2, v, k3, h⟩)⟩)
    · exact Or.inl (Or.inl h)
    · exact Or.inr ⟨k, k1, k2, v, k3, Or.inl h⟩
    · exact Or.inl (Or.inr ⟨h1, 0, by decide, h⟩)
    · exact Or.inr ⟨k, k1, k2, v, k3, Or.inr ⟨h1, 0, by decide, h⟩⟩
    · exact Or.inl (Or.inr ⟨h1, 1, by decide, h⟩)
    · exact Or.inr ⟨k, k1, k2, v, k3, Or.inr ⟨h1, 1, by decide, h⟩⟩
def bFs (r : Nat → Int64) (pa : Nat → Int32) (f p e b c x : Nat) : Prop := ∃ key, bF r pa f p e b c key ∧ x = key * 64 + 2 ^ p
def bNs (r : Nat → Int64) (pa : Nat → Int32) (f p x : Nat) : Prop := ∃ key, bNr r pa f p key ∧ x = key * 64 + 2 ^ p
theorem sb_lt9 {a b c : Nat} (ha : a ≤ 40) (hb : b ≤ 2) (hc : c ≤ 40) : nI a - nI b < nI c ↔ a < c + b := by
  rw [Int32.lt_iff_toInt_lt, pk_sub_toInt (by omega) (by omega), nI_toInt (by omega)]
  omega
theorem rg_in {r : Nat → Int64} {F : Nat} {pa my : Nat → Int32} {f p : Nat} (hd : sOK r F pa my) (hf : f < F) (hp : p < 6) (hm : 0 < rM r f p) : rgA r pa f p ≤ rA r f p 0 ∧ rB r f p 0 ≤ rgB r pa f p := by
  have hF4 := hd.f4
  have hM := (hd.w.2.2 f p (by omega) hp).1.2
  rcases hd.par f hf with e | ⟨g, hg, e, _⟩
  · rw [(rg_t e).1, (rg_t e).2]
    exact ⟨Nat.zero_le _, (hd.ab f p 0 (by omega) hp (by decide)).2⟩
  · rw [(rg_p e (by omega)).1, (rg_p e (by omega)).2]
    obtain ⟨h1, h2, h3⟩ := hd.ne f p g hf hp hm e (by omega)
    refine ⟨h2, Nat.le_trans ?_ h3⟩
    have h4 := srt_mk hd (show f < 4 by omega) hp
    by_cases z : rM r f p = 1
    · rw [z]; exact Nat.le_refl _
    · have h5 := srt_lt h4 0 (rM r f p - 2) (by rw [mkL_len]; omega)
      rw [show 0 + 1 + (rM r f p - 2) = rM r f p - 1 by omega, mkL_getD hm, mkL_getD (by omega)] at h5
      have h6 := (hd.so f p (rM r f p - 1) (by omega) hp (by omega)).1
      have h5 : rB r f p 0 ≤ rA r f p (rM r f p - 1) := h5
      omega
set_option maxRecDepth 20000 in
theorem stops_loop {h : mH} {Q : Option Value → mH → Prop} {ow : Nat → Nat} {a ρ k m n : Nat} {V : Nat → Nat} {pl : Nat → Int64} {gs gn : Int64} {gf gt : Int32} {F f p qp : Nat} {pa my : Nat → Int32} {r : Nat → Int64} {b c st ah fo : Nat} {x12 x13 x14 : Option Value} (tp : tPl ow h a ρ k m n V) (hρ : 10 < ρ) (zg : zG ow h pl (nI (rgA r pa f p)) (nI (rgB r pa f p)) gs gn gf gt) (hP : gP pl (pmR r p (-1)) (rowL (-1) (rT r p)).length) (hd : sOK r F pa my) (hp : p < rP r) (pg : pgR ow h qp r p) (hrm : hU h + 8 * hN h + 5 * (20480 - m) ≤ 8000000) (hf : f < F) (hmk : 0 < rM r f p) (hbc : b ≤ 243 ∧ c ≤ 243) (hah : rgA r pa f p + ah ≤ rA r f p 0) (hk : k + 260 < 10240) (hst : (st = 1 ∧ ¬ rB r f p 0 < rgB r pa f p) ∨ (st = 3 ∧ rB r f p 0 < rgB r pa f p)) (hK : ∀ h' ow' m' k' V' x11 x12 x13 x14, cFr [ρ] (5 * (m' - m)) ow h ow' h' → m ≤ m' → (k ≤ k' ∧ k' ≤ k + 243) → tPl ow' h' a ρ k' m' n V' → zG ow' h' pl (nI (rgA r pa f p)) (nI (rgB r pa f p)) gs gn gf gt → pgR ow' h' qp r p → (∀ x, pSt V' k' x ↔ pSt V k x ∨ bFs r pa f p (rA r f p 0 - ah) b c x) → Wp mX9_pileRules 4 100 180 [some (.ref a), some (.ref qp), some (.ref 115), some (.int (nI (rA r f p 0))), some (.int (nI (rB r f p 0))), some (.int (nI (2 ^ p))), some (.int (nI st)), some (.int (nI ah)), some (.int (nI fo)), some (.int (itm b)), some (.int (itm c)), x11, x12, x13, x14] [] h' Q) : Wp mX9_pileRules 4 100 113 [some (.ref a), some (.ref qp), some (.ref 115), some (.int (nI (rA r f p 0))), some (.int (nI (rB r f p 0))), some (.int (nI (2 ^ p))), some (.int (nI st)), some (.int (nI ah)), some (.int (nI fo)), some (.int (itm b)), some (.int (itm c)), some (.int (nI 0)), x12, x13, x14] [] h Q := by
  have hP6 := hd.w.1.2
  have hp6 : p < 6 := by omega
  have hT40 := (hd.w.2.1 p hp6).2
  have hrl := row1 (k := rT r p) hT40
  have hlen : (rowL (-1) (rT r p)).length ≤ 40 := by omega
  have hm0 := tPl_m tp
  have hF4 := hd.f4
  have hrg := rg_le hd hf hp6
  have hab := hd.so f p 0 (by omega) hp6 hmk
  have hbT := (hd.ab f p 0 (by omega) hp6 (by decide)).2
  have hin := rg_in hd hf hp6 hmk
  rcases hst with ⟨e9, hto⟩ | ⟨e9, hto⟩
  · subst e9
    refine wp_iload dX9_pileRules_113 rfl ?_
    refine wp_iload dX9_pileRules_115 rfl ?_
    refine wp_icmp_ge dX9_pileRules_117 (fun q => absurd q (by decide +kernel)) (fun _ => ?_)
    refine wp_iload dX9_pileRules_120 rfl ?_
    refine wp_if_ne dX9_pileRules_122 (fun q => absurd q (by decide +kernel)) (fun _ => ?_)
    refine wp_iconst (v := (-1)) dX9_pileRules_125 (by decide +kernel) ?_
    refine wp_goto dX9_pileRules_126 ?_
    refine wp_istore (ls1 := [_, _, _, _, _, _, _, _, _, _, _, _, some _, _, _]) dX9_pileRules_146 (by decide) rfl ?_
    refine wp_iconst (v := (-1)) dX9_pileRules_148 (by decide +kernel) ?_
    refine wp_iload dX9_pileRules_149 rfl ?_
    refine wp_iload dX9_pileRules_151 rfl ?_
    refine wp_iload dX9_pileRules_153 rfl ?_
    refine wp_cSN4 1 20 [some _, some _, some _, some _, none, none] dX9_pileRules_155 tX11_ruleOf sX11_ruleOf lX9_95 ⟨by decide, by decide⟩ (Nat.le_of_ble_eq_true rfl) (Nat.le_of_ble_eq_true rfl) rfl ?_
    refine (show Wp _ _ _ _ _ _ _ _ from pX11_ruleOf (a := 0) (b := b) (c := c) (d := 0) (by decide) (by omega) (by omega) (by omega) ?_)
    intro _ _
    refine wp_lstore (ls1 := [_, _, _, _, _, _, _, _, _, _, _, _, _, some _, _]) dX9_pileRules_158 (by decide) rfl ?_
    refine wp_aload_n dX9_pileRules_160 rfl rfl ?_
    refine wp_lload dX9_pileRules_161 rfl ?_
    refine wp_aload_n dX9_pileRules_163 rfl rfl ?_
    refine wp_aload_n dX9_pileRules_164 rfl rfl ?_
    refine wp_iload_n dX9_pileRules_165 rfl rfl ?_
    refine wp_iload dX9_pileRules_166 rfl ?_
    refine wp_isub dX9_pileRules_168 ?_
    refine wp_iload dX9_pileRules_169 rfl ?_
    refine wp_cV5 3 71 [some _, some _, none, some _, some _, some _, some _, none, none, none] dX9_pileRules_171 tX9_pileFars rfl (by decide) nX9_pileFars vX9_pileFars lX9_99 ⟨by decide, by decide⟩ (Nat.le_of_ble_eq_true rfl) tp.oo (Nat.le_of_ble_eq_true rfl) rfl ?_
    try rw [pk_sub (by omega)]
    refine pX9_pileFars tp hρ zg hP hd hp pg (by omega) (by omega) (by omega) (by omega) (fun hh1 ow1 m1 k1 V1 f1 hm1 hk1 tp_1 hs1 => ?_)
    intro _ _
    have bm1 := tPl_m tp_1
    have zg_1 := zg.fr f1 (rnS (by omega) rn0)
    have pg_1 := pg.fr f1 (rnS (by omega) rn0)
    refine wp_iinc1 (ls1 := [_, _, _, _, _, _, _, _, _, _, _, some _, _, _, _]) dX9_pileRules_174 rfl (by decide) rfl ?_
    refine wp_goto dX9_pileRules_177 ?_
    refine wp_iload dX9_pileRules_113 rfl ?_
    refine wp_iload dX9_pileRules_115 rfl ?_
    refine wp_icmp_ge dX9_pileRules_117 (fun _ => ?_) (fun q => absurd (by decide +kernel) q)
    refine hK _ _ m1 k1 V1 _ _ _ _ (f1.up (fun _ h => h) (by omega)) (by omega) (by omega) tp_1 zg_1 pg_1 (fun x => ?_)
    rw [hs1 x]
    unfold bFs
    constructor
    · rintro (h | ⟨ky, h1, h2⟩)
      · exact Or.inl h
      · exact Or.inr ⟨ky, bF_far.mpr (Or.inl h1), h2⟩
    · rintro (h | ⟨ky, h1, h2⟩)
      · exact Or.inl h
      · rcases bF_far.mp h1 with h1 | ⟨h3, h1 | h1⟩
        · exact Or.inr ⟨ky, h1, h2⟩
        · omega
        · omega
  · subst e9
    refine wp_iload dX9_pileRules_113 rfl ?_
    refine wp_iload dX9_pileRules_115 rfl ?_
    refine wp_icmp_ge dX9_pileRules_117 (fun q => absurd q (by decide +kernel)) (fun _ => ?_)
    refine wp_iload dX9_pileRules_120 rfl ?_
    refine wp_if_ne dX9_pileRules_122 (fun q => absurd q (by decide +kernel)) (fun _ => ?_)
    refine wp_iconst (v := (-1)) dX9_pileRules_125 (by decide +kernel) ?_
    refine wp_goto dX9_pileRules_126 ?_
    refine wp_istore (ls1 := [_, _, _, _, _, _, _, _, _, _, _, _, some _, _, _]) dX9_pileRules_146 (by decide) rfl ?_
    refine wp_iconst (v := (-1)) dX9_pileRules_148 (by decide +kernel) ?_
    refine wp_iload dX9_pileRules_149 rfl ?_
    refine wp_iload dX9_pileRules_151 rfl ?_
    refine wp_iload dX9_pileRules_153 rfl ?_
    refine wp_cSN4 1 20 [some _, some _, some _, some _, none, none] dX9_pileRules_155 tX11_ruleOf sX11_ruleOf lX9_95 ⟨by decide, by decide⟩ (Nat.le_of_ble_eq_true rfl) (Nat.le_of_ble_eq_true rfl) rfl ?_
    refine (show Wp _ _ _ _ _ _ _ _ from pX11_ruleOf (a := 0) (b := b) (c := c) (d := 0) (by decide) (by omega) (by omega) (by omega) ?_)
    intro _ _
    refine wp_lstore (ls1 := [_, _, _, _, _, _, _, _, _, _, _, _, _, some _, _]) dX9_pileRules_158 (by decide) rfl ?_
    refine wp_aload_n dX9_pileRules_160 rfl rfl ?_
    refine wp_lload dX9_pileRules_161 rfl ?_
    refine wp_aload_n dX9_pileRules_163 rfl rfl ?_
    refine wp_aload_n dX9_pileRules_164 rfl rfl ?_
    refine wp_iload_n dX9_pileRules_165 rfl rfl ?_
    refine wp_iload dX9_pileRules_166 rfl ?_
    refine wp_isub dX9_pileRules_168 ?_
    refine wp_iload dX9_pileRules_169 rfl ?_
    refine wp_cV5 3 71 [some _, some _, none, some _, some _, some _, some _, none, none, none] dX9_pileRules_171 tX9_pileFars rfl (by decide) nX9_pileFars vX9_pileFars lX9_99 ⟨by decide, by decide⟩ (Nat.le_of_ble_eq_true rfl) tp.oo (Nat.le_of_ble_eq_true rfl) rfl ?_
    try rw [pk_sub (by omega)]
    refine pX9_pileFars tp hρ zg hP hd hp pg (by omega) (by omega) (by omega) (by omega) (fun hh1 ow1 m1 k1 V1 f1 hm1 hk1 tp_1 hs1 => ?_)
    intro _ _
    have bm1 := tPl_m tp_1
    have zg_1 := zg.fr f1 (rnS (by omega) rn0)
    have pg_1 := pg.fr f1 (rnS (by omega) rn0)
    refine wp_iinc1 (ls1 := [_, _, _, _, _, _, _, _, _, _, _, some _, _, _, _]) dX9_pileRules_174 rfl (by decide) rfl ?_
    refine wp_goto dX9_pileRules_177 ?_
    refine wp_iload dX9_pileRules_113 rfl ?_
    refine wp_iload dX9_pileRules_115 rfl ?_
    refine wp_icmp_ge dX9_pileRules_117 (fun q => absurd q (by decide +kernel)) (fun _ => ?_)
    refine wp_iload dX9_pileRules_120 rfl ?_
    refine wp_if_ne dX9_pileRules_122 (fun _ => ?_) (fun q => absurd q (by decide +kernel))
    refine wp_aload_n dX9_pileRules_129 rfl rfl ?_
    refine wp_iload dX9_pileRules_130 rfl ?_
    refine wp_iload dX9_pileRules_132 rfl ?_
    refine wp_iconst (v := (nI 2)) dX9_pileRules_134 (by decide +kernel) ?_
    refine wp_icmp_ne dX9_pileRules_135 (fun _ => ?_) (fun q => absurd q (by decide +kernel))
    refine wp_iconst (v := (nI 0)) dX9_pileRules_142 (by decide +kernel) ?_
    refine wp_cV2 0 0 [some _, some _, some _] dX9_pileRules_143 tX6_itemAt rfl (by decide) nX6_itemAt vX6_itemAt lX9_89 ⟨by decide, by decide⟩ (Nat.le_of_ble_eq_true rfl) pg_1.oo (Nat.le_of_ble_eq_true rfl) rfl ?_
    refine pX6_itemAt hd hp pg_1 (by decide) (fun i2 hi2 ei2 v2 hv2 => ?_) (fun xn2 => absurd xn2 (by rw [ix_nI (by omega) (by omega)]; exact fun z => by cases z))
    have ei2 := (nI_eq (by omega) (by omega)).mp ei2
    subst ei2
    have hv2 : v2 = itm (asC r p (rB r f p 0) 0) := hv2.elim (fun z => z.2) (fun z => absurd z.1 (by decide))
    subst hv2
    have hc2 := asC_b (i := rB r f p 0) (w := 0) hd.w hp (by omega)
    intro _ _
    refine wp_istore (ls1 := [_, _, _, _, _, _, _, _, _, _, _, _, some _, _, _]) dX9_pileRules_146 (by decide) rfl ?_
    refine wp_iconst (v := (-1)) dX9_pileRules_148 (by decide +kernel) ?_
    refine wp_iload dX9_pileRules_149 rfl ?_
    refine wp_iload dX9_pileRules_151 rfl ?_
    refine wp_iload dX9_pileRules_153 rfl ?_
    refine wp_cSN4 1 20 [some _, some _, some _, some _, none, none] dX9_pileRules_155 tX11_ruleOf sX11_ruleOf lX9_95 ⟨by decide, by decide⟩ (Nat.le_of_ble_eq_true rfl) (Nat.le_of_ble_eq_true rfl) rfl ?_
    refine (show Wp _ _ _ _ _ _ _ _ from pX11_ruleOf (a := 0) (b := b) (c := c) (d := (asC r p (rB r f p 0) 0)) (by decide) (by omega) (by omega) (by omega) ?_)
    intro _ _
    refine wp_lstore (ls1 := [_, _, _, _, _, _, _, _, _, _, _, _, _, some _, _]) dX9_pileRules_158 (by decide) rfl ?_
    refine wp_aload_n dX9_pileRules_160 rfl rfl ?_
    refine wp_lload dX9_pileRules_161 rfl ?_
    refine wp_aload_n dX9_pileRules_163 rfl rfl ?_
    refine wp_aload_n dX9_pileRules_164 rfl rfl ?_
    refine wp_iload_n dX9_pileRules_165 rfl rfl ?_
    refine wp_iload dX9_pileRules_166 rfl ?_
    refine wp_isub dX9_pileRules_168 ?_
    refine wp_iload dX9_pileRules_169 rfl ?_
    refine wp_cV5 3 71 [some _, some _, none, some _, some _, some _, some _, none, none, none] dX9_pileRules_171 tX9_pileFars rfl (by decide) nX9_pileFars vX9_pileFars lX9_99 ⟨by decide, by decide⟩ (Nat.le_of_ble_eq_true rfl) tp_1.oo (Nat.le_of_ble_eq_true rfl) rfl ?_
    try rw [pk_sub (by omega)]
    refine pX9_pileFars tp_1 hρ zg_1 hP hd hp pg_1 (by have := f1.1.2.2; omega) (by omega) (by omega) (by omega) (fun hh3 ow3 m3 k3 V3 f3 hm3 hk3 tp_3 hs3 => ?_)
    intro _ _
    have bm3 := tPl_m tp_3
    have zg_3 := zg_1.fr f3 (rnS (by omega) rn0)
    have pg_3 := pg_1.fr f3 (rnS (by omega) rn0)
    refine wp_iinc1 (ls1 := [_, _, _, _, _, _, _, _, _, _, _, some _, _, _, _]) dX9_pileRules_174 rfl (by decide) rfl ?_
    refine wp_goto dX9_pileRules_177 ?_
    refine wp_iload dX9_pileRules_113 rfl ?_
    refine wp_iload dX9_pileRules_115 rfl ?_
    refine wp_icmp_ge dX9_pileRules_117 (fun q => absurd q (by decide +kernel)) (fun _ => ?_)
    refine wp_iload dX9_pileRules_120 rfl ?_
    refine wp_if_ne dX9_pileRules_122 (fun _ => ?_) (fun q => absurd q (by decide +kernel))
    refine wp_aload_n dX9_pileRules_129 rfl rfl ?_
    refine wp_iload dX9_pileRules_130 rfl ?_
    refine wp_iload dX9_pileRules_132 rfl ?_
    refine wp_iconst (v := (nI 2)) dX9_pileRules_134 (by decide +kernel) ?_
    refine wp_icmp_ne dX9_pileRules_135 (fun q => absurd (by decide +kernel) q) (fun _ => ?_)
    refine wp_iconst (v := (nI 1)) dX9_pileRules_138 (by decide +kernel) ?_
    refine wp_goto dX9_pileRules_139 ?_
    refine wp_cV2 0 0 [some _, some _, some _] dX9_pileRules_143 tX6_itemAt rfl (by decide) nX6_itemAt vX6_itemAt lX9_89 ⟨by decide, by decide⟩ (Nat.le_of_ble_eq_true rfl) pg_3.oo (Nat.le_of_ble_eq_true rfl) rfl ?_
    refine pX6_itemAt hd hp pg_3 (by decide) (fun i4 hi4 ei4 v4 hv4 => ?_) (fun xn4 => absurd xn4 (by rw [ix_nI (by omega) (by omega)]; exact fun z => by cases z))
    have ei4 := (nI_eq (by omega) (by omega)).mp ei4
    subst ei4
    have hv4 : v4 = itm (asC r p (rB r f p 0) 1) := hv4.elim (fun z => absurd z.1 (by decide)) (fun z => z.2)
    subst hv4
    have hc4 := asC_b (i := rB r f p 0) (w := 1) hd.w hp (by omega)
    intro _ _
    refine wp_istore (ls1 := [_, _, _, _, _, _, _, _, _, _, _, _, some _, _, _]) dX9_pileRules_146 (by decide) rfl ?_
    refine wp_iconst (v := (-1)) dX9_pileRules_148 (by decide +kernel) ?_
    refine wp_iload dX9_pileRules_149 rfl ?_
    refine wp_iload dX9_pileRules_151 rfl ?_
    refine wp_iload dX9_pileRules_153 rfl ?_
    refine wp_cSN4 1 20 [some _, some _, some _, some _, none, none] dX9_pileRules_155 tX11_ruleOf sX11_ruleOf lX9_95 ⟨by decide, by decide⟩ (Nat.le_of_ble_eq_true rfl) (Nat.le_of_ble_eq_true rfl) rfl ?_
    refine (show Wp _ _ _ _ _ _ _ _ from pX11_ruleOf (a := 0) (b := b) (c := c) (d := (asC r p (rB r f p 0) 1)) (by decide) (by omega) (by omega) (by omega) ?_)
    intro _ _
    refine wp_lstore (ls1 := [_, _, _, _, _, _, _, _, _, _, _, _, _, some _, _]) dX9_pileRules_158 (by decide) rfl ?_
    refine wp_aload_n dX9_pileRules_160 rfl rfl ?_
    refine wp_lload dX9_pileRules_161 rfl ?_
    refine wp_aload_n dX9_pileRules_163 rfl rfl ?_
    refine wp_aload_n dX9_pileRules_164 rfl rfl ?_
    refine wp_iload_n dX9_pileRules_165 rfl rfl ?_
    refine wp_iload dX9_pileRules_166 rfl ?_
    refine wp_isub dX9_pileRules_168 ?_
    refine wp_iload dX9_pileRules_169 rfl ?_
    refine wp_cV5 3 71 [some _, some _, none, some _, some _, some _, some _, none, none, none] dX9_pileRules_171 tX9_pileFars rfl (by decide) nX9_pileFars vX9_pileFars lX9_99 ⟨by decide, by decide⟩ (Nat.le_of_ble_eq_true rfl) tp_3.oo (Nat.le_of_ble_eq_true rfl) rfl ?_
    try rw [pk_sub (by omega)]
    refine pX9_pileFars tp_3 hρ zg_3 hP hd hp pg_3 (by have := f1.1.2.2; have := f3.1.2.2; omega) (by omega) (by omega) (by omega) (fun hh5 ow5 m5 k5 V5 f5 hm5 hk5 tp_5 hs5 => ?_)
    intro _ _
    have bm5 := tPl_m tp_5
    have zg_5 := zg_3.fr f5 (rnS (by omega) rn0)
    have pg_5 := pg_3.fr f5 (rnS (by omega) rn0)
    refine wp_iinc1 (ls1 := [_, _, _, _, _, _, _, _, _, _, _, some _, _, _, _]) dX9_pileRules_174 rfl (by decide) rfl ?_
    refine wp_goto dX9_pileRules_177 ?_
    refine wp_iload dX9_pileRules_113 rfl ?_
    refine wp_iload dX9_pileRules_115 rfl ?_
    refine wp_icmp_ge dX9_pileRules_117 (fun _ => ?_) (fun q => absurd (by decide +kernel) q)
    refine hK _ _ m5 k5 V5 _ _ _ _ (((f1.tr f3).tr f5).up (fun _ h => h) (by omega)) (by omega) (by omega) tp_5 zg_5 pg_5 (fun x => ?_)
    rw [hs5 x, hs3 x, hs1 x]
    unfold bFs
    constructor
    · rintro (((h | ⟨ky, h1, h2⟩) | ⟨ky, h1, h2⟩) | ⟨ky, h1, h2⟩)
      · exact Or.inl h
      · exact Or.inr ⟨ky, bF_far.mpr (Or.inl h1), h2⟩
      · exact Or.inr ⟨ky, bF_far.mpr (Or.inr ⟨hto, Or.inl h1⟩), h2⟩
      · exact Or.inr ⟨ky, bF_far.mpr (Or.inr ⟨hto, Or.inr h1⟩), h2⟩
    · rintro (h | ⟨ky, h1, h2⟩)
      · exact Or.inl (Or.inl (Or.inl h))
      · rcases bF_far.mp h1 with h1 | ⟨h3, h1 | h1⟩
        · exact Or.inl (Or.inl (Or.inr ⟨ky, h1, h2⟩))
        · exact Or.inl (Or.inr ⟨ky, h1, h2⟩)
        · exact Or.inr ⟨ky, h1, h2⟩
set_option maxRecDepth 20000 in
theorem pX9_pileRules {h : mH} {Q : Option Value → mH → Prop} {ow : Nat → Nat} {a ρ k m n : Nat} {V : Nat → Nat} {pl : Nat → Int64} {gs gn : Int64} {gf gt : Int32} {F f p qp : Nat} {pa my : Nat → Int32} {r : Nat → Int64} (tp : tPl ow h a ρ k m n V) (hρ : 10 < ρ) (zg : zG ow h pl (nI (rgA r pa f p)) (nI (rgB r pa f p)) gs gn gf gt) (hP : gP pl (pmR r p (-1)) (rowL (-1) (rT r p)).length) (hd : sOK r F pa my) (hp : p < rP r) (pg : pgR ow h qp r p) (hrm : hU h + 8 * hN h + 5 * (20480 - m) ≤ 8000000) (hf : f < F) (hmk : 0 < rM r f p) (hk : k + 1720 < 10240) (hq : ∀ h' ow' m' k' V', cFr [ρ] (5 * (m' - m)) ow h ow' h' → m ≤ m' → (k ≤ k' ∧ k' ≤ k + 1701) → tPl ow' h' a ρ k' m' n V' → zG ow' h' pl (nI (rgA r pa f p)) (nI (rgB r pa f p)) gs gn gf gt → pgR ow' h' qp r p → (∀ x, pSt V' k' x ↔ pSt V k x ∨ bNs r pa f p x) → Q none h') : Wp mX9_pileRules 4 100 0 [some (.ref a), some (.ref qp), some (.ref 115), some (.int (nI (rA r f p 0))), some (.int (nI (rB r f p 0))), some (.int (nI (2 ^ p))), none, none, none, none, none, none, none, none, none] [] h Q := by
  have hP6 := hd.w.1.2
  have hp6 : p < 6 := by omega
  have hT40 := (hd.w.2.1 p hp6).2
  have hrl := row1 (k := rT r p) hT40
  have hlen : (rowL (-1) (rT r p)).length ≤ 40 := by omega
  have hm0 := tPl_m tp
  have hF4 := hd.f4
  have hrg := rg_le hd hf hp6
  have hab := hd.so f p 0 (by omega) hp6 hmk
  have hbT := (hd.ab f p 0 (by omega) hp6 (by decide)).2
  have hin := rg_in hd hf hp6 hmk
  refine wp_iload dX9_pileRules_0 rfl ?_
  refine wp_aload_n dX9_pileRules_2 rfl rfl ?_
  refine wp_getIV dX9_pileRules_3 lX9_83 rfl zg.o zg.f2 ?_
  refine wp_icmp_geN dX9_pileRules_6 rfl rfl ⟨by omega, by omega⟩ (fun hto => ?_) (fun hto => ?_)
  · refine wp_iconst (v := (nI 1)) dX9_pileRules_13 (by decide +kernel) ?_
    refine wp_istore (ls1 := [_, _, _, _, _, _, some _, _, _, _, _, _, _, _, _]) dX9_pileRules_14 (by decide) rfl ?_
    refine wp_iconst (v := (nI 0)) dX9_pileRules_16 (by decide +kernel) ?_
    refine wp_istore (ls1 := [_, _, _, _, _, _, _, some _, _, _, _, _, _, _, _]) dX9_pileRules_17 (by decide) rfl ?_
    refine wp_iload dX9_pileRules_19 rfl ?_
    refine wp_iconst (v := (nI 2)) dX9_pileRules_21 (by decide +kernel) ?_
    refine wp_icmp_gt dX9_pileRules_22 (fun q => absurd q (by decide +kernel)) (fun _ => ?_)
    refine wp_iload_n dX9_pileRules_25 rfl rfl ?_
    refine wp_iload dX9_pileRules_26 rfl ?_
    refine wp_isub dX9_pileRules_28 ?_
    refine wp_aload_n dX9_pileRules_29 rfl rfl ?_
    refine wp_getIV dX9_pileRules_30 lX9_86 rfl zg.o zg.f1 ?_
    refine wp_icmp_lt dX9_pileRules_33 (fun q => absurd ((sb_lt9 (by omega) (by decide) (by omega)).mp q) (by omega)) (fun _ => ?_)
    refine wp_iconst (v := (nI 0)) dX9_pileRules_36 (by decide +kernel) ?_
    refine wp_istore (ls1 := [_, _, _, _, _, _, _, _, some _, _, _, _, _, _, _]) dX9_pileRules_37 (by decide) rfl ?_
    refine wp_iload dX9_pileRules_39 rfl ?_
    refine wp_iconst (v := (nI 1)) dX9_pileRules_41 (by decide +kernel) ?_
    refine wp_iload dX9_pileRules_42 rfl ?_
    refine wp_ishl dX9_pileRules_44 ?_
    refine wp_icmp_ge dX9_pileRules_45 (fun q => absurd q (by decide +kernel)) (fun _ => ?_)
    refine wp_iload dX9_pileRules_48 rfl ?_
    refine wp_if_ne dX9_pileRules_50 (fun q => absurd q (by decide +kernel)) (fun _ => ?_)
    refine wp_iconst (v := (-1)) dX9_pileRules_53 (by decide +kernel) ?_
    refine wp_goto dX9_pileRules_54 ?_
    refine wp_istore (ls1 := [_, _, _, _, _, _, _, _, _, some _, _, _, _, _, _]) dX9_pileRules_77 (by decide) rfl ?_
    refine wp_iload dX9_pileRules_79 rfl ?_
    refine wp_iconst (v := (nI 2)) dX9_pileRules_81 (by decide +kernel) ?_
    refine wp_icmp_ge dX9_pileRules_82 (fun q => absurd q (by decide +kernel)) (fun _ => ?_)
    refine wp_iconst (v := (-1)) dX9_pileRules_85 (by decide +kernel) ?_
    refine wp_goto dX9_pileRules_86 ?_
    refine wp_istore (ls1 := [_, _, _, _, _, _, _, _, _, _, some _, _, _, _, _]) dX9_pileRules_108 (by decide) rfl ?_
    refine wp_iconst (v := (nI 0)) dX9_pileRules_110 (by decide +kernel) ?_
    refine wp_istore (ls1 := [_, _, _, _, _, _, _, _, _, _, _, some _, _, _, _]) dX9_pileRules_111 (by decide) rfl ?_
    refine stops_loop (b := 0) (c := 0) (ah := 0) (fo := 0) tp hρ zg hP hd hp pg (by omega) hf hmk (by omega) (by omega) (by omega) (Or.inl ⟨rfl, by omega⟩) (fun hh1 ow1 m1 k1 V1 y11 y12 y13 y14 f1 hm1 hk1 tp_1 zg_1 pg_1 hs1 => ?_)
    have bm1 := tPl_m tp_1
    refine wp_iinc1 (ls1 := [_, _, _, _, _, _, _, _, some _, _, _, _, _, _, _]) dX9_pileRules_180 rfl (by decide) rfl ?_
    refine wp_goto dX9_pileRules_183 ?_
    refine wp_iload dX9_pileRules_39 rfl ?_
    refine wp_iconst (v := (nI 1)) dX9_pileRules_41 (by decide +kernel) ?_
    refine wp_iload dX9_pileRules_42 rfl ?_
    refine wp_ishl dX9_pileRules_44 ?_
    refine wp_icmp_ge dX9_pileRules_45 (fun _ => ?_) (fun q => absurd (by decide +kernel) q)
    refine wp_iinc1 (ls1 := [_, _, _, _, _, _, _, some _, _, _, _, _, _, _, _]) dX9_pileRules_186 rfl (by decide) rfl ?_
    refine wp_goto dX9_pileRules_189 ?_
    refine wp_iload dX9_pileRules_19 rfl ?_
    refine wp_iconst (v := (nI 2)) dX9_pileRules_21 (by decide +kernel) ?_
    refine wp_icmp_gt dX9_pileRules_22 (fun q => absurd q (by decide +kernel)) (fun _ => ?_)
    refine wp_iload_n dX9_pileRules_25 rfl rfl ?_
    refine wp_iload dX9_pileRules_26 rfl ?_
    refine wp_isub dX9_pileRules_28 ?_
    refine wp_aload_n dX9_pileRules_29 rfl rfl ?_
    refine wp_getIV dX9_pileRules_30 lX9_86 rfl zg_1.o zg_1.f1 ?_
    refine wp_icmp_lt dX9_pileRules_33 (fun q1 => ?_) (fun q1 => ?_)
    · have q1 := (sb_lt9 (by omega) (by decide) (by omega)).mp q1
      refine wp_vreturn dX9_pileRules_192 rfl ?_
      refine hq _ _ m1 k1 V1 (f1.up (fun _ h => h) (by omega)) (by omega) (by omega) tp_1 zg_1 pg_1 (fun x => ?_)
      rw [hs1 x]
      unfold bFs bNs
      constructor
      · rintro (h | ⟨ky, h1, h2⟩)
        · exact Or.inl h
        · exact Or.inr ⟨ky, Or.inl h1, h2⟩
      · rintro (h | ⟨ky, h1, h2⟩)
        · exact Or.inl (h)
        · rcases h1 with h1 | ⟨h3, w, h4, h1⟩ | ⟨h3, w, h4, h1⟩
          · exact Or.inr ⟨ky, h1, h2⟩
          · omega
          · omega
    · have q1 : rgA r pa f p + 1 ≤ rA r f p 0 := Nat.not_lt.mp (fun z => q1 ((sb_lt9 (by omega) (by decide) (by omega)).mpr z))
      refine wp_iconst (v := (nI 0)) dX9_pileRules_36 (by decide +kernel) ?_
      refine wp_istore (ls1 := [_, _, _, _, _, _, _, _, some _, _, _, _, _, _, _]) dX9_pileRules_37 (by decide) rfl ?_
      refine wp_iload dX9_pileRules_39 rfl ?_
      refine wp_iconst (v := (nI 1)) dX9_pileRules_41 (by decide +kernel) ?_
      refine wp_iload dX9_pileRules_42 rfl ?_
      refine wp_ishl dX9_pileRules_44 ?_
      refine wp_icmp_ge dX9_pileRules_45 (fun q => absurd q (by decide +kernel)) (fun _ => ?_)
      refine wp_iload dX9_pileRules_48 rfl ?_
      refine wp_if_ne dX9_pileRules_50 (fun _ => ?_) (fun q => absurd q (by decide +kernel))
      refine wp_aload_n dX9_pileRules_57 rfl rfl ?_
      refine wp_iload_n dX9_pileRules_58 rfl rfl ?_
      refine wp_iload dX9_pileRules_59 rfl ?_
      refine wp_isub dX9_pileRules_61 ?_
      refine wp_iload dX9_pileRules_62 rfl ?_
      refine wp_iconst (v := (nI 1)) dX9_pileRules_64 (by decide +kernel) ?_
      refine wp_iand dX9_pileRules_65 ?_
      refine wp_if_eq dX9_pileRules_66 (fun _ => ?_) (fun q => absurd (by decide +kernel) q)
      refine wp_iconst (v := (nI 0)) dX9_pileRules_73 (by decide +kernel) ?_
      refine wp_cV2 0 0 [some _, some _, some _] dX9_pileRules_74 tX6_itemAt rfl (by decide) nX6_itemAt vX6_itemAt lX9_89 ⟨by decide, by decide⟩ (Nat.le_of_ble_eq_true rfl) pg_1.oo (Nat.le_of_ble_eq_true rfl) rfl ?_
      try rw [pk_sub (by omega)]
      refine pX6_itemAt hd hp pg_1 (by decide) (fun i2 hi2 ei2 v2 hv2 => ?_) (fun xn2 => absurd xn2 (by rw [ix_nI (by omega) (by omega)]; exact fun z => by cases z))
      have ei2 := (nI_eq (by omega) (by omega)).mp ei2
      subst ei2
      have hv2 : v2 = itm (asC r p (rA r f p 0 - 1) 0) := hv2.elim (fun z => z.2) (fun z => absurd z.1 (by decide))
      subst hv2
      have hc2 := asC_b (i := rA r f p 0 - 1) (w := 0) hd.w hp (by omega)
      intro _ _
      refine wp_istore (ls1 := [_, _, _, _, _, _, _, _, _, some _, _, _, _, _, _]) dX9_pileRules_77 (by decide) rfl ?_
      refine wp_iload dX9_pileRules_79 rfl ?_
      refine wp_iconst (v := (nI 2)) dX9_pileRules_81 (by decide +kernel) ?_
      refine wp_icmp_ge dX9_pileRules_82 (fun q => absurd q (by decide +kernel)) (fun _ => ?_)
      refine wp_iconst (v := (-1)) dX9_pileRules_85 (by decide +kernel) ?_
      refine wp_goto dX9_pileRules_86 ?_
      refine wp_istore (ls1 := [_, _, _, _, _, _, _, _, _, _, some _, _, _, _, _]) dX9_pileRules_108 (by decide) rfl ?_
      refine wp_iconst (v := (nI 0)) dX9_pileRules_110 (by decide +kernel) ?_
      refine wp_istore (ls1 := [_, _, _, _, _, _, _, _, _, _, _, some _, _, _, _]) dX9_pileRules_111 (by decide) rfl ?_
      refine stops_loop (b := (asC r p (rA r f p 0 - 1) 0)) (c := 0) (ah := 1) (fo := 0) tp_1 hρ zg_1 hP hd hp pg_1 (by have := f1.1.2.2; omega) hf hmk (by omega) (by omega) (by omega) (Or.inl ⟨rfl, by omega⟩) (fun hh3 ow3 m3 k3 V3 y11 y12 y13 y14 f3 hm3 hk3 tp_3 zg_3 pg_3 hs3 => ?_)
      have bm3 := tPl_m tp_3
      refine wp_iinc1 (ls1 := [_, _, _, _, _, _, _, _, some _, _, _, _, _, _, _]) dX9_pileRules_180 rfl (by decide) rfl ?_
      refine wp_goto dX9_pileRules_183 ?_
      refine wp_iload dX9_pileRules_39 rfl ?_
      refine wp_iconst (v := (nI 1)) dX9_pileRules_41 (by decide +kernel) ?_
      refine wp_iload dX9_pileRules_42 rfl ?_
      refine wp_ishl dX9_pileRules_44 ?_
      refine wp_icmp_ge dX9_pileRules_45 (fun q => absurd q (by decide +kernel)) (fun _ => ?_)
      refine wp_iload dX9_pileRules_48 rfl ?_
      refine wp_if_ne dX9_pileRules_50 (fun _ => ?_) (fun q => absurd q (by decide +kernel))
      refine wp_aload_n dX9_pileRules_57 rfl rfl ?_
      refine wp_iload_n dX9_pileRules_58 rfl rfl ?_
      refine wp_iload dX9_pileRules_59 rfl ?_
      refine wp_isub dX9_pileRules_61 ?_
      refine wp_iload dX9_pileRules_62 rfl ?_
      refine wp_iconst (v := (nI 1)) dX9_pileRules_64 (by decide +kernel) ?_
      refine wp_iand dX9_pileRules_65 ?_
      refine wp_if_eq dX9_pileRules_66 (fun q => absurd q (by decide +kernel)) (fun _ => ?_)
      refine wp_iconst (v := (nI 1)) dX9_pileRules_69 (by decide +kernel) ?_
      refine wp_goto dX9_pileRules_70 ?_
      refine wp_cV2 0 0 [some _, some _, some _] dX9_pileRules_74 tX6_itemAt rfl (by decide) nX6_itemAt vX6_itemAt lX9_89 ⟨by decide, by decide⟩ (Nat.le_of_ble_eq_true rfl) pg_3.oo (Nat.le_of_ble_eq_true rfl) rfl ?_
      try rw [pk_sub (by omega)]
      refine pX6_itemAt hd hp pg_3 (by decide) (fun i4 hi4 ei4 v4 hv4 => ?_) (fun xn4 => absurd xn4 (by rw [ix_nI (by omega) (by omega)]; exact fun z => by cases z))
      have ei4 := (nI_eq (by omega) (by omega)).mp ei4
      subst ei4
      have hv4 : v4 = itm (asC r p (rA r f p 0 - 1) 1) := hv4.elim (fun z => absurd z.1 (by decide)) (fun z => z.2)
      subst hv4
      have hc4 := asC_b (i := rA r f p 0 - 1) (w := 1) hd.w hp (by omega)
      intro _ _
      refine wp_istore (ls1 := [_, _, _, _, _, _, _, _, _, some _, _, _, _, _, _]) dX9_pileRules_77 (by decide) rfl ?_
      refine wp_iload dX9_pileRules_79 rfl ?_
      refine wp_iconst (v := (nI 2)) dX9_pileRules_81 (by decide +kernel) ?_
      refine wp_icmp_ge dX9_pileRules_82 (fun q => absurd q (by decide +kernel)) (fun _ => ?_)
      refine wp_iconst (v := (-1)) dX9_pileRules_85 (by decide +kernel) ?_
      refine wp_goto dX9_pileRules_86 ?_
      refine wp_istore (ls1 := [_, _, _, _, _, _, _, _, _, _, some _, _, _, _, _]) dX9_pileRules_108 (by decide) rfl ?_
      refine wp_iconst (v := (nI 0)) dX9_pileRules_110 (by decide +kernel) ?_
      refine wp_istore (ls1 := [_, _, _, _, _, _, _, _, _, _, _, some _, _, _, _]) dX9_pileRules_111 (by decide) rfl ?_
      refine stops_loop (b := (asC r p (rA r f p 0 - 1) 1)) (c := 0) (ah := 1) (fo := 1) tp_3 hρ zg_3 hP hd hp pg_3 (by have := f1.1.2.2; have := f3.1.2.2; omega) hf hmk (by omega) (by omega) (by omega) (Or.inl ⟨rfl, by omega⟩) (fun hh5 ow5 m5 k5 V5 y11 y12 y13 y14 f5 hm5 hk5 tp_5 zg_5 pg_5 hs5 => ?_)
      have bm5 := tPl_m tp_5
      refine wp_iinc1 (ls1 := [_, _, _, _, _, _, _, _, some _, _, _, _, _, _, _]) dX9_pileRules_180 rfl (by decide) rfl ?_
      refine wp_goto dX9_pileRules_183 ?_
      refine wp_iload dX9_pileRules_39 rfl ?_
      refine wp_iconst (v := (nI 1)) dX9_pileRules_41 (by decide +kernel) ?_
      refine wp_iload dX9_pileRules_42 rfl ?_
      refine wp_ishl dX9_pileRules_44 ?_
      refine wp_icmp_ge dX9_pileRules_45 (fun _ => ?_) (fun q => absurd (by decide +kernel) q)
      refine wp_iinc1 (ls1 := [_, _, _, _, _, _, _, some _, _, _, _, _, _, _, _]) dX9_pileRules_186 rfl (by decide) rfl ?_
      refine wp_goto dX9_pileRules_189 ?_
      refine wp_iload dX9_pileRules_19 rfl ?_
      refine wp_iconst (v := (nI 2)) dX9_pileRules_21 (by decide +kernel) ?_
      refine wp_icmp_gt dX9_pileRules_22 (fun q => absurd q (by decide +kernel)) (fun _ => ?_)
      refine wp_iload_n dX9_pileRules_25 rfl rfl ?_
      refine wp_iload dX9_pileRules_26 rfl ?_
      refine wp_isub dX9_pileRules_28 ?_
      refine wp_aload_n dX9_pileRules_29 rfl rfl ?_
      refine wp_getIV dX9_pileRules_30 lX9_86 rfl zg_5.o zg_5.f1 ?_
      refine wp_icmp_lt dX9_pileRules_33 (fun q2 => ?_) (fun q2 => ?_)
      · have q2 := (sb_lt9 (by omega) (by decide) (by omega)).mp q2
        refine wp_vreturn dX9_pileRules_192 rfl ?_
        refine hq _ _ m5 k5 V5 (((f1.tr f3).tr f5).up (fun _ h => h) (by omega)) (by omega) (by omega) tp_5 zg_5 pg_5 (fun x => ?_)
        rw [hs5 x, hs3 x, hs1 x]
        unfold bFs bNs
        constructor
        · rintro (((h | ⟨ky, h1, h2⟩) | ⟨ky, h1, h2⟩) | ⟨ky, h1, h2⟩)
          · exact Or.inl h
          · exact Or.inr ⟨ky, Or.inl h1, h2⟩
          · exact Or.inr ⟨ky, Or.inr (Or.inl ⟨by omega, 0, by decide, h1⟩), h2⟩
          · exact Or.inr ⟨ky, Or.inr (Or.inl ⟨by omega, 1, by decide, h1⟩), h2⟩
        · rintro (h | ⟨ky, h1, h2⟩)
          · exact Or.inl (Or.inl (Or.inl (h)))
          · rcases h1 with h1 | ⟨h3, w, h4, h1⟩ | ⟨h3, w, h4, h1⟩
            · exact Or.inl (Or.inl (Or.inr ⟨ky, h1, h2⟩))
            · rcases (by omega : w = 0 ∨ w = 1) with rfl | rfl
              · exact Or.inl (Or.inr ⟨ky, h1, h2⟩)
              · exact Or.inr ⟨ky, h1, h2⟩
            · omega
      · have q2 : rgA r pa f p + 2 ≤ rA r f p 0 := Nat.not_lt.mp (fun z => q2 ((sb_lt9 (by omega) (by decide) (by omega)).mpr z))
        refine wp_iconst (v := (nI 0)) dX9_pileRules_36 (by decide +kernel) ?_
        refine wp_istore (ls1 := [_, _, _, _, _, _, _, _, some _, _, _, _, _, _, _]) dX9_pileRules_37 (by decide) rfl ?_
        refine wp_iload dX9_pileRules_39 rfl ?_
        refine wp_iconst (v := (nI 1)) dX9_pileRules_41 (by decide +kernel) ?_
        refine wp_iload dX9_pileRules_42 rfl ?_
        refine wp_ishl dX9_pileRules_44 ?_
        refine wp_icmp_ge dX9_pileRules_45 (fun q => absurd q (by decide +kernel)) (fun _ => ?_)
        refine wp_iload dX9_pileRules_48 rfl ?_
        refine wp_if_ne dX9_pileRules_50 (fun _ => ?_) (fun q => absurd q (by decide +kernel))
        refine wp_aload_n dX9_pileRules_57 rfl rfl ?_
        refine wp_iload_n dX9_pileRules_58 rfl rfl ?_
        refine wp_iload dX9_pileRules_59 rfl ?_
        refine wp_isub dX9_pileRules_61 ?_
        refine wp_iload dX9_pileRules_62 rfl ?_
        refine wp_iconst (v := (nI 1)) dX9_pileRules_64 (by decide +kernel) ?_
        refine wp_iand dX9_pileRules_65 ?_
        refine wp_if_eq dX9_pileRules_66 (fun _ => ?_) (fun q => absurd (by decide +kernel) q)
        refine wp_iconst (v := (nI 0)) dX9_pileRules_73 (by decide +kernel) ?_
        refine wp_cV2 0 0 [some _, some _, some _] dX9_pileRules_74 tX6_itemAt rfl (by decide) nX6_itemAt vX6_itemAt lX9_89 ⟨by decide, by decide⟩ (Nat.le_of_ble_eq_true rfl) pg_5.oo (Nat.le_of_ble_eq_true rfl) rfl ?_
        try rw [pk_sub (by omega)]
        refine pX6_itemAt hd hp pg_5 (by decide) (fun i6 hi6 ei6 v6 hv6 => ?_) (fun xn6 => absurd xn6 (by rw [ix_nI (by omega) (by omega)]; exact fun z => by cases z))
        have ei6 := (nI_eq (by omega) (by omega)).mp ei6
        subst ei6
        have hv6 : v6 = itm (asC r p (rA r f p 0 - 2) 0) := hv6.elim (fun z => z.2) (fun z => absurd z.1 (by decide))
        subst hv6
        have hc6 := asC_b (i := rA r f p 0 - 2) (w := 0) hd.w hp (by omega)
        intro _ _
        refine wp_istore (ls1 := [_, _, _, _, _, _, _, _, _, some _, _, _, _, _, _]) dX9_pileRules_77 (by decide) rfl ?_
        refine wp_iload dX9_pileRules_79 rfl ?_
        refine wp_iconst (v := (nI 2)) dX9_pileRules_81 (by decide +kernel) ?_
        refine wp_icmp_ge dX9_pileRules_82 (fun _ => ?_) (fun q => absurd (by decide +kernel) q)
        refine wp_aload_n dX9_pileRules_89 rfl rfl ?_
        refine wp_iload_n dX9_pileRules_90 rfl rfl ?_
        refine wp_iconst (v := (nI 1)) dX9_pileRules_91 (by decide +kernel) ?_
        refine wp_isub dX9_pileRules_92 ?_
        refine wp_iload dX9_pileRules_93 rfl ?_
        refine wp_iconst (v := (nI 2)) dX9_pileRules_95 (by decide +kernel) ?_
        refine wp_iand dX9_pileRules_96 ?_
        refine wp_if_eq dX9_pileRules_97 (fun _ => ?_) (fun q => absurd (by decide +kernel) q)
        refine wp_iconst (v := (nI 0)) dX9_pileRules_104 (by decide +kernel) ?_
        refine wp_cV2 0 0 [some _, some _, some _] dX9_pileRules_105 tX6_itemAt rfl (by decide) nX6_itemAt vX6_itemAt lX9_89 ⟨by decide, by decide⟩ (Nat.le_of_ble_eq_true rfl) pg_5.oo (Nat.le_of_ble_eq_true rfl) rfl ?_
        try rw [pk_sub (by omega)]
        refine pX6_itemAt hd hp pg_5 (by decide) (fun i7 hi7 ei7 v7 hv7 => ?_) (fun xn7 => absurd xn7 (by rw [ix_nI (by omega) (by omega)]; exact fun z => by cases z))
        have ei7 := (nI_eq (by omega) (by omega)).mp ei7
        subst ei7
        have hv7 : v7 = itm (asC r p (rA r f p 0 - 1) 0) := hv7.elim (fun z => z.2) (fun z => absurd z.1 (by decide))
        subst hv7
        have hc7 := asC_b (i := rA r f p 0 - 1) (w := 0) hd.w hp (by omega)
        intro _ _
        refine wp_istore (ls1 := [_, _, _, _, _, _, _, _, _, _, some _, _, _, _, _]) dX9_pileRules_108 (by decide) rfl ?_
        refine wp_iconst (v := (nI 0)) dX9_pileRules_110 (by decide +kernel) ?_
        refine wp_istore (ls1 := [_, _, _, _, _, _, _, _, _, _, _, some _, _, _, _]) dX9_pileRules_111 (by decide) rfl ?_
        refine stops_loop (b := (asC r p (rA r f p 0 - 2) 0)) (c := (asC r p (rA r f p 0 - 1) 0)) (ah := 2) (fo := 0) tp_5 hρ zg_5 hP hd hp pg_5 (by have := f1.1.2.2; have := f3.1.2.2; have := f5.1.2.2; omega) hf hmk (by omega) (by omega) (by omega) (Or.inl ⟨rfl, by omega⟩) (fun hh8 ow8 m8 k8 V8 y11 y12 y13 y14 f8 hm8 hk8 tp_8 zg_8 pg_8 hs8 => ?_)
        have bm8 := tPl_m tp_8
        refine wp_iinc1 (ls1 := [_, _, _, _, _, _, _, _, some _, _, _, _, _, _, _]) dX9_pileRules_180 rfl (by decide) rfl ?_
        refine wp_goto dX9_pileRules_183 ?_
        refine wp_iload dX9_pileRules_39 rfl ?_
        refine wp_iconst (v := (nI 1)) dX9_pileRules_41 (by decide +kernel) ?_
        refine wp_iload dX9_pileRules_42 rfl ?_
        refine wp_ishl dX9_pileRules_44 ?_
        refine wp_icmp_ge dX9_pileRules_45 (fun q => absurd q (by decide +kernel)) (fun _ => ?_)
        refine wp_iload dX9_pileRules_48 rfl ?_
        refine wp_if_ne dX9_pileRules_50 (fun _ => ?_) (fun q => absurd q (by decide +kernel))
        refine wp_aload_n dX9_pileRules_57 rfl rfl ?_
        refine wp_iload_n dX9_pileRules_58 rfl rfl ?_
        refine wp_iload dX9_pileRules_59 rfl ?_
        refine wp_isub dX9_pileRules_61 ?_
        refine wp_iload dX9_pileRules_62 rfl ?_
        refine wp_iconst (v := (nI 1)) dX9_pileRules_64 (by decide +kernel) ?_
        refine wp_iand dX9_pileRules_65 ?_
        refine wp_if_eq dX9_pileRules_66 (fun q => absurd q (by decide +kernel)) (fun _ => ?_)
        refine wp_iconst (v := (nI 1)) dX9_pileRules_69 (by decide +kernel) ?_
        refine wp_goto dX9_pileRules_70 ?_
        refine wp_cV2 0 0 [some _, some _, some _] dX9_pileRules_74 tX6_itemAt rfl (by decide) nX6_itemAt vX6_itemAt lX9_89 ⟨by decide, by decide⟩ (Nat.le_of_ble_eq_true rfl) pg_8.oo (Nat.le_of_ble_eq_true rfl) rfl ?_
        try rw [pk_sub (by omega)]
        refine pX6_itemAt hd hp pg_8 (by decide) (fun i9 hi9 ei9 v9 hv9 => ?_) (fun xn9 => absurd xn9 (by rw [ix_nI (by omega) (by omega)]; exact fun z => by cases z))
        have ei9 := (nI_eq (by omega) (by omega)).mp ei9
        subst ei9
        have hv9 : v9 = itm (asC r p (rA r f p 0 - 2) 1) := hv9.elim (fun z => absurd z.1 (by decide)) (fun z => z.2)
        subst hv9
        have hc9 := asC_b (i := rA r f p 0 - 2) (w := 1) hd.w hp (by omega)
        intro _ _
        refine wp_istore (ls1 := [_, _, _, _, _, _, _, _, _, some _, _, _, _, _, _]) dX9_pileRules_77 (by decide) rfl ?_
        refine wp_iload dX9_pileRules_79 rfl ?_
        refine wp_iconst (v := (nI 2)) dX9_pileRules_81 (by decide +kernel) ?_
        refine wp_icmp_ge dX9_pileRules_82 (fun _ => ?_) (fun q => absurd (by decide +kernel) q)
        refine wp_aload_n dX9_pileRules_89 rfl rfl ?_
        refine wp_iload_n dX9_pileRules_90 rfl rfl ?_
        refine wp_iconst (v := (nI 1)) dX9_pileRules_91 (by decide +kernel) ?_
        refine wp_isub dX9_pileRules_92 ?_
        refine wp_iload dX9_pileRules_93 rfl ?_
        refine wp_iconst (v := (nI 2)) dX9_pileRules_95 (by decide +kernel) ?_
        refine wp_iand dX9_pileRules_96 ?_
        refine wp_if_eq dX9_pileRules_97 (fun _ => ?_) (fun q => absurd (by decide +kernel) q)
        refine wp_iconst (v := (nI 0)) dX9_pileRules_104 (by decide +kernel) ?_
        refine wp_cV2 0 0 [some _, some _, some _] dX9_pileRules_105 tX6_itemAt rfl (by decide) nX6_itemAt vX6_itemAt lX9_89 ⟨by decide, by decide⟩ (Nat.le_of_ble_eq_true rfl) pg_8.oo (Nat.le_of_ble_eq_true rfl) rfl ?_
        try rw [pk_sub (by omega)]
        refine pX6_itemAt hd hp pg_8 (by decide) (fun i10 hi10 ei10 v10 hv10 => ?_) (fun xn10 => absurd xn10 (by rw [ix_nI (by omega) (by omega)]; exact fun z => by cases z))
        have ei10 := (nI_eq (by omega) (by omega)).mp ei10
        subst ei10
        have hv10 : v10 = itm (asC r p (rA r f p 0 - 1) 0) := hv10.elim (fun z => z.2) (fun z => absurd z.1 (by decide))
        subst hv10
        have hc10 := asC_b (i := rA r f p 0 - 1) (w := 0) hd.w hp (by omega)
        intro _ _
        refine wp_istore (ls1 := [_, _, _, _, _, _, _, _, _, _, some _, _, _, _, _]) dX9_pileRules_108 (by decide) rfl ?_
        refine wp_iconst (v := (nI 0)) dX9_pileRules_110 (by decide +kernel) ?_
        refine wp_istore (ls1 := [_, _, _, _, _, _, _, _, _, _, _, some _, _, _, _]) dX9_pileRules_111 (by decide) rfl ?_
        refine stops_loop (b := (asC r p (rA r f p 0 - 2) 1)) (c := (asC r p (rA r f p 0 - 1) 0)) (ah := 2) (fo := 1) tp_8 hρ zg_8 hP hd hp pg_8 (by have := f1.1.2.2; have := f3.1.2.2; have := f5.1.2.2; have := f8.1.2.2; omega) hf hmk (by omega) (by omega) (by omega) (Or.inl ⟨rfl, by omega⟩) (fun hh11 ow11 m11 k11 V11 y11 y12 y13 y14 f11 hm11 hk11 tp_11 zg_11 pg_11 hs11 => ?_)
        have bm11 := tPl_m tp_11
        refine wp_iinc1 (ls1 := [_, _, _, _, _, _, _, _, some _, _, _, _, _, _, _]) dX9_pileRules_180 rfl (by decide) rfl ?_
        refine wp_goto dX9_pileRules_183 ?_
        refine wp_iload dX9_pileRules_39 rfl ?_
        refine wp_iconst (v := (nI 1)) dX9_pileRules_41 (by decide +kernel) ?_
        refine wp_iload dX9_pileRules_42 rfl ?_
        refine wp_ishl dX9_pileRules_44 ?_
        refine wp_icmp_ge dX9_pileRules_45 (fun q => absurd q (by decide +kernel)) (fun _ => ?_)
        refine wp_iload dX9_pileRules_48 rfl ?_
        refine wp_if_ne dX9_pileRules_50 (fun _ => ?_) (fun q => absurd q (by decide +kernel))
        refine wp_aload_n dX9_pileRules_57 rfl rfl ?_
        refine wp_iload_n dX9_pileRules_58 rfl rfl ?_
        refine wp_iload dX9_pileRules_59 rfl ?_
        refine wp_isub dX9_pileRules_61 ?_
        refine wp_iload dX9_pileRules_62 rfl ?_
        refine wp_iconst (v := (nI 1)) dX9_pileRules_64 (by decide +kernel) ?_
        refine wp_iand dX9_pileRules_65 ?_
        refine wp_if_eq dX9_pileRules_66 (fun _ => ?_) (fun q => absurd (by decide +kernel) q)
        refine wp_iconst (v := (nI 0)) dX9_pileRules_73 (by decide +kernel) ?_
        refine wp_cV2 0 0 [some _, some _, some _] dX9_pileRules_74 tX6_itemAt rfl (by decide) nX6_itemAt vX6_itemAt lX9_89 ⟨by decide, by decide⟩ (Nat.le_of_ble_eq_true rfl) pg_11.oo (Nat.le_of_ble_eq_true rfl) rfl ?_
        try rw [pk_sub (by omega)]
        refine pX6_itemAt hd hp pg_11 (by decide) (fun i12 hi12 ei12 v12 hv12 => ?_) (fun xn12 => absurd xn12 (by rw [ix_nI (by omega) (by omega)]; exact fun z => by cases z))
        have ei12 := (nI_eq (by omega) (by omega)).mp ei12
        subst ei12
        have hv12 : v12 = itm (asC r p (rA r f p 0 - 2) 0) := hv12.elim (fun z => z.2) (fun z => absurd z.1 (by decide))
        subst hv12
        have hc12 := asC_b (i := rA r f p 0 - 2) (w := 0) hd.w hp (by omega)
        intro _ _
        refine wp_istore (ls1 := [_, _, _, _, _, _, _, _, _, some _, _, _, _, _, _]) dX9_pileRules_77 (by decide) rfl ?_
        refine wp_iload dX9_pileRules_79 rfl ?_
        refine wp_iconst (v := (nI 2)) dX9_pileRules_81 (by decide +kernel) ?_
        refine wp_icmp_ge dX9_pileRules_82 (fun _ => ?_) (fun q => absurd (by decide +kernel) q)
        refine wp_aload_n dX9_pileRules_89 rfl rfl ?_
        refine wp_iload_n dX9_pileRules_90 rfl rfl ?_
        refine wp_iconst (v := (nI 1)) dX9_pileRules_91 (by decide +kernel) ?_
        refine wp_isub dX9_pileRules_92 ?_
        refine wp_iload dX9_pileRules_93 rfl ?_
        refine wp_iconst (v := (nI 2)) dX9_pileRules_95 (by decide +kernel) ?_
        refine wp_iand dX9_pileRules_96 ?_
        refine wp_if_eq dX9_pileRules_97 (fun q => absurd q (by decide +kernel)) (fun _ => ?_)
        refine wp_iconst (v := (nI 1)) dX9_pileRules_100 (by decide +kernel) ?_
        refine wp_goto dX9_pileRules_101 ?_
        refine wp_cV2 0 0 [some _, some _, some _] dX9_pileRules_105 tX6_itemAt rfl (by decide) nX6_itemAt vX6_itemAt lX9_89 ⟨by decide, by decide⟩ (Nat.le_of_ble_eq_true rfl) pg_11.oo (Nat.le_of_ble_eq_true rfl) rfl ?_
        try rw [pk_sub (by omega)]
        refine pX6_itemAt hd hp pg_11 (by decide) (fun i13 hi13 ei13 v13 hv13 => ?_) (fun xn13 => absurd xn13 (by rw [ix_nI (by omega) (by omega)]; exact fun z => by cases z))
        have ei13 := (nI_eq (by omega) (by omega)).mp ei13
        subst ei13
        have hv13 : v13 = itm (asC r p (rA r f p 0 - 1) 1) := hv13.elim (fun z => absurd z.1 (by decide)) (fun z => z.2)
        subst hv13
        have hc13 := asC_b (i := rA r f p 0 - 1) (w := 1) hd.w hp (by omega)
        intro _ _
        refine wp_istore (ls1 := [_, _, _, _, _, _, _, _, _, _, some _, _, _, _, _]) dX9_pileRules_108 (by decide) rfl ?_
        refine wp_iconst (v := (nI 0)) dX9_pileRules_110 (by decide +kernel) ?_
        refine wp_istore (ls1 := [_, _, _, _, _, _, _, _, _, _, _, some _, _, _, _]) dX9_pileRules_111 (by decide) rfl ?_
        refine stops_loop (b := (asC r p (rA r f p 0 - 2) 0)) (c := (asC r p (rA r f p 0 - 1) 1)) (ah := 2) (fo := 2) tp_11 hρ zg_11 hP hd hp pg_11 (by have := f1.1.2.2; have := f3.1.2.2; have := f5.1.2.2; have := f8.1.2.2; have := f11.1.2.2; omega) hf hmk (by omega) (by omega) (by omega) (Or.inl ⟨rfl, by omega⟩) (fun hh14 ow14 m14 k14 V14 y11 y12 y13 y14 f14 hm14 hk14 tp_14 zg_14 pg_14 hs14 => ?_)
        have bm14 := tPl_m tp_14
        refine wp_iinc1 (ls1 := [_, _, _, _, _, _, _, _, some _, _, _, _, _, _, _]) dX9_pileRules_180 rfl (by decide) rfl ?_
        refine wp_goto dX9_pileRules_183 ?_
        refine wp_iload dX9_pileRules_39 rfl ?_
        refine wp_iconst (v := (nI 1)) dX9_pileRules_41 (by decide +kernel) ?_
        refine wp_iload dX9_pileRules_42 rfl ?_
        refine wp_ishl dX9_pileRules_44 ?_
        refine wp_icmp_ge dX9_pileRules_45 (fun q => absurd q (by decide +kernel)) (fun _ => ?_)
        refine wp_iload dX9_pileRules_48 rfl ?_
        refine wp_if_ne dX9_pileRules_50 (fun _ => ?_) (fun q => absurd q (by decide +kernel))
        refine wp_aload_n dX9_pileRules_57 rfl rfl ?_
        refine wp_iload_n dX9_pileRules_58 rfl rfl ?_
        refine wp_iload dX9_pileRules_59 rfl ?_
        refine wp_isub dX9_pileRules_61 ?_
        refine wp_iload dX9_pileRules_62 rfl ?_
        refine wp_iconst (v := (nI 1)) dX9_pileRules_64 (by decide +kernel) ?_
        refine wp_iand dX9_pileRules_65 ?_
        refine wp_if_eq dX9_pileRules_66 (fun q => absurd q (by decide +kernel)) (fun _ => ?_)
        refine wp_iconst (v := (nI 1)) dX9_pileRules_69 (by decide +kernel) ?_
        refine wp_goto dX9_pileRules_70 ?_
        refine wp_cV2 0 0 [some _, some _, some _] dX9_pileRules_74 tX6_itemAt rfl (by decide) nX6_itemAt vX6_itemAt lX9_89 ⟨by decide, by decide⟩ (Nat.le_of_ble_eq_true rfl) pg_14.oo (Nat.le_of_ble_eq_true rfl) rfl ?_
        try rw [pk_sub (by omega)]
        refine pX6_itemAt hd hp pg_14 (by decide) (fun i15 hi15 ei15 v15 hv15 => ?_) (fun xn15 => absurd xn15 (by rw [ix_nI (by omega) (by omega)]; exact fun z => by cases z))
        have ei15 := (nI_eq (by omega) (by omega)).mp ei15
        subst ei15
        have hv15 : v15 = itm (asC r p (rA r f p 0 - 2) 1) := hv15.elim (fun z => absurd z.1 (by decide)) (fun z => z.2)
        subst hv15
        have hc15 := asC_b (i := rA r f p 0 - 2) (w := 1) hd.w hp (by omega)
        intro _ _
        refine wp_istore (ls1 := [_, _, _, _, _, _, _, _, _, some _, _, _, _, _, _]) dX9_pileRules_77 (by decide) rfl ?_
        refine wp_iload dX9_pileRules_79 rfl ?_
        refine wp_iconst (v := (nI 2)) dX9_pileRules_81 (by decide +kernel) ?_
        refine wp_icmp_ge dX9_pileRules_82 (fun _ => ?_) (fun q => absurd (by decide +kernel) q)
        refine wp_aload_n dX9_pileRules_89 rfl rfl ?_
        refine wp_iload_n dX9_pileRules_90 rfl rfl ?_
        refine wp_iconst (v := (nI 1)) dX9_pileRules_91 (by decide +kernel) ?_
        refine wp_isub dX9_pileRules_92 ?_
        refine wp_iload dX9_pileRules_93 rfl ?_
        refine wp_iconst (v := (nI 2)) dX9_pileRules_95 (by decide +kernel) ?_
        refine wp_iand dX9_pileRules_96 ?_
        refine wp_if_eq dX9_pileRules_97 (fun q => absurd q (by decide +kernel)) (fun _ => ?_)
        refine wp_iconst (v := (nI 1)) dX9_pileRules_100 (by decide +kernel) ?_
        refine wp_goto dX9_pileRules_101 ?_
        refine wp_cV2 0 0 [some _, some _, some _] dX9_pileRules_105 tX6_itemAt rfl (by decide) nX6_itemAt vX6_itemAt lX9_89 ⟨by decide, by decide⟩ (Nat.le_of_ble_eq_true rfl) pg_14.oo (Nat.le_of_ble_eq_true rfl) rfl ?_
        try rw [pk_sub (by omega)]
        refine pX6_itemAt hd hp pg_14 (by decide) (fun i16 hi16 ei16 v16 hv16 => ?_) (fun xn16 => absurd xn16 (by rw [ix_nI (by omega) (by omega)]; exact fun z => by cases z))
        have ei16 := (nI_eq (by omega) (by omega)).mp ei16
        subst ei16
        have hv16 : v16 = itm (asC r p (rA r f p 0 - 1) 1) := hv16.elim (fun z => absurd z.1 (by decide)) (fun z => z.2)
        subst hv16
        have hc16 := asC_b (i := rA r f p 0 - 1) (w := 1) hd.w hp (by omega)
        intro _ _
        refine wp_istore (ls1 := [_, _, _, _, _, _, _, _, _, _, some _, _, _, _, _]) dX9_pileRules_108 (by decide) rfl ?_
        refine wp_iconst (v := (nI 0)) dX9_pileRules_110 (by decide +kernel) ?_
        refine wp_istore (ls1 := [_, _, _, _, _, _, _, _, _, _, _, some _, _, _, _]) dX9_pileRules_111 (by decide) rfl ?_
        refine stops_loop (b := (asC r p (rA r f p 0 - 2) 1)) (c := (asC r p (rA r f p 0 - 1) 1)) (ah := 2) (fo := 3) tp_14 hρ zg_14 hP hd hp pg_14 (by have := f1.1.2.2; have := f3.1.2.2; have := f5.1.2.2; have := f8.1.2.2; have := f11.1.2.2; have := f14.1.2.2; omega) hf hmk (by omega) (by omega) (by omega) (Or.inl ⟨rfl, by omega⟩) (fun hh17 ow17 m17 k17 V17 y11 y12 y13 y14 f17 hm17 hk17 tp_17 zg_17 pg_17 hs17 => ?_)
        have bm17 := tPl_m tp_17
        refine wp_iinc1 (ls1 := [_, _, _, _, _, _, _, _, some _, _, _, _, _, _, _]) dX9_pileRules_180 rfl (by decide) rfl ?_
        refine wp_goto dX9_pileRules_183 ?_
        refine wp_iload dX9_pileRules_39 rfl ?_
        refine wp_iconst (v := (nI 1)) dX9_pileRules_41 (by decide +kernel) ?_
        refine wp_iload dX9_pileRules_42 rfl ?_
        refine wp_ishl dX9_pileRules_44 ?_
        refine wp_icmp_ge dX9_pileRules_45 (fun _ => ?_) (fun q => absurd (by decide +kernel) q)
        refine wp_iinc1 (ls1 := [_, _, _, _, _, _, _, some _, _, _, _, _, _, _, _]) dX9_pileRules_186 rfl (by decide) rfl ?_
        refine wp_goto dX9_pileRules_189 ?_
        refine wp_iload dX9_pileRules_19 rfl ?_
        refine wp_iconst (v := (nI 2)) dX9_pileRules_21 (by decide +kernel) ?_
        refine wp_icmp_gt dX9_pileRules_22 (fun _ => ?_) (fun q => absurd (by decide +kernel) q)
        refine wp_vreturn dX9_pileRules_192 rfl ?_
        refine hq _ _ m17 k17 V17 (((((((f1.tr f3).tr f5).tr f8).tr f11).tr f14).tr f17).up (fun _ h => h) (by omega)) (by omega) (by omega) tp_17 zg_17 pg_17 (fun x => ?_)
        rw [hs17 x, hs14 x, hs11 x, hs8 x, hs5 x, hs3 x, hs1 x]
        unfold bFs bNs
        constructor
        · rintro (((((((h | ⟨ky, h1, h2⟩) | ⟨ky, h1, h2⟩) | ⟨ky, h1, h2⟩) | ⟨ky, h1, h2⟩) | ⟨ky, h1, h2⟩) | ⟨ky, h1, h2⟩) | ⟨ky, h1, h2⟩)
          · exact Or.inl h
          · exact Or.inr ⟨ky, Or.inl h1, h2⟩
          · exact Or.inr ⟨ky, Or.inr (Or.inl ⟨by omega, 0, by decide, h1⟩), h2⟩
          · exact Or.inr ⟨ky, Or.inr (Or.inl ⟨by omega, 1, by decide, h1⟩), h2⟩
          · exact Or.inr ⟨ky, Or.inr (Or.inr ⟨by omega, 0, by decide, h1⟩), h2⟩
          · exact Or.inr ⟨ky, Or.inr (Or.inr ⟨by omega, 2, by decide, h1⟩), h2⟩
          · exact Or.inr ⟨ky, Or.inr (Or.inr ⟨by omega, 1, by decide, h1⟩), h2⟩
          · exact Or.inr ⟨ky, Or.inr (Or.inr ⟨by omega, 3, by decide, h1⟩), h2⟩
        · rintro (h | ⟨ky, h1, h2⟩)
          · exact Or.inl (Or.inl (Or.inl (Or.inl (Or.inl (Or.inl (Or.inl (h)))))))
          · rcases h1 with h1 | ⟨h3, w, h4, h1⟩ | ⟨h3, w, h4, h1⟩
            · exact Or.inl (Or.inl (Or.inl (Or.inl (Or.inl (Or.inl (Or.inr ⟨ky, h1, h2⟩))))))
            · rcases (by omega : w = 0 ∨ w = 1) with rfl | rfl
              · exact Or.inl (Or.inl (Or.inl (Or.inl (Or.inl (Or.inr ⟨ky, h1, h2⟩)))))
              · exact Or.inl (Or.inl (Or.inl (Or.inl (Or.inr ⟨ky, h1, h2⟩))))
            · rcases (by omega : w = 0 ∨ w = 1 ∨ w = 2 ∨ w = 3) with rfl | rfl | rfl | rfl
              · exact Or.inl (Or.inl (Or.inl (Or.inr ⟨ky, h1, h2⟩)))
              · exact Or.inl (Or.inr ⟨ky, h1, h2⟩)
              · exact Or.inl (Or.inl (Or.inr ⟨ky, h1, h2⟩))
              · exact Or.inr ⟨ky, h1, h2⟩
  · refine wp_iconst (v := (nI 3)) dX9_pileRules_9 (by decide +kernel) ?_
    refine wp_goto dX9_pileRules_10 ?_
    refine wp_istore (ls1 := [_, _, _, _, _, _, some _, _, _, _, _, _, _, _, _]) dX9_pileRules_14 (by decide) rfl ?_
    refine wp_iconst (v := (nI 0)) dX9_pileRules_16 (by decide +kernel) ?_
    refine wp_istore (ls1 := [_, _, _, _, _, _, _, some _, _, _, _, _, _, _, _]) dX9_pileRules_17 (by decide) rfl ?_
    refine wp_iload dX9_pileRules_19 rfl ?_
    refine wp_iconst (v := (nI 2)) dX9_pileRules_21 (by decide +kernel) ?_
    refine wp_icmp_gt dX9_pileRules_22 (fun q => absurd q (by decide +kernel)) (fun _ => ?_)
    refine wp_iload_n dX9_pileRules_25 rfl rfl ?_
    refine wp_iload dX9_pileRules_26 rfl ?_
    refine wp_isub dX9_pileRules_28 ?_
    refine wp_aload_n dX9_pileRules_29 rfl rfl ?_
    refine wp_getIV dX9_pileRules_30 lX9_86 rfl zg.o zg.f1 ?_
    refine wp_icmp_lt dX9_pileRules_33 (fun q => absurd ((sb_lt9 (by omega) (by decide) (by omega)).mp q) (by omega)) (fun _ => ?_)
    refine wp_iconst (v := (nI 0)) dX9_pileRules_36 (by decide +kernel) ?_
    refine wp_istore (ls1 := [_, _, _, _, _, _, _, _, some _, _, _, _, _, _, _]) dX9_pileRules_37 (by decide) rfl ?_
    refine wp_iload dX9_pileRules_39 rfl ?_
    refine wp_iconst (v := (nI 1)) dX9_pileRules_41 (by decide +kernel) ?_
    refine wp_iload dX9_pileRules_42 rfl ?_
    refine wp_ishl dX9_pileRules_44 ?_
    refine wp_icmp_ge dX9_pileRules_45 (fun q => absurd q (by decide +kernel)) (fun _ => ?_)
    refine wp_iload dX9_pileRules_48 rfl ?_
    refine wp_if_ne dX9_pileRules_50 (fun q => absurd q (by decide +kernel)) (fun _ => ?_)
    refine wp_iconst (v := (-1)) dX9_pileRules_53 (by decide +kernel) ?_
    refine wp_goto dX9_pileRules_54 ?_
    refine wp_istore (ls1 := [_, _, _, _, _, _, _, _, _, some _, _, _, _, _, _]) dX9_pileRules_77 (by decide) rfl ?_
    refine wp_iload dX9_pileRules_79 rfl ?_
    refine wp_iconst (v := (nI 2)) dX9_pileRules_81 (by decide +kernel) ?_
    refine wp_icmp_ge dX9_pileRules_82 (fun q => absurd q (by decide +kernel)) (fun _ => ?_)
    refine wp_iconst (v := (-1)) dX9_pileRules_85 (by decide +kernel) ?_
    refine wp_goto dX9_pileRules_86 ?_
    refine wp_istore (ls1 := [_, _, _, _, _, _, _, _, _, _, some _, _, _, _, _]) dX9_pileRules_108 (by decide) rfl ?_
    refine wp_iconst (v := (nI 0)) dX9_pileRules_110 (by decide +kernel) ?_
    refine wp_istore (ls1 := [_, _, _, _, _, _, _, _, _, _, _, some _, _, _, _]) dX9_pileRules_111 (by decide) rfl ?_
    refine stops_loop (b := 0) (c := 0) (ah := 0) (fo := 0) tp hρ zg hP hd hp pg (by omega) hf hmk (by omega) (by omega) (by omega) (Or.inr ⟨rfl, by omega⟩) (fun hh18 ow18 m18 k18 V18 y11 y12 y13 y14 f18 hm18 hk18 tp_18 zg_18 pg_18 hs18 => ?_)
    have bm18 := tPl_m tp_18
    refine wp_iinc1 (ls1 := [_, _, _, _, _, _, _, _, some _, _, _, _, _, _, _]) dX9_pileRules_180 rfl (by decide) rfl ?_
    refine wp_goto dX9_pileRules_183 ?_
    refine wp_iload dX9_pileRules_39 rfl ?_
    refine wp_iconst (v := (nI 1)) dX9_pileRules_41 (by decide +kernel) ?_
    refine wp_iload dX9_pileRules_42 rfl ?_
    refine wp_ishl dX9_pileRules_44 ?_
    refine wp_icmp_ge dX9_pileRules_45 (fun _ => ?_) (fun q => absurd (by decide +kernel) q)
    refine wp_iinc1 (ls1 := [_, _, _, _, _, _, _, some _, _, _, _, _, _, _, _]) dX9_pileRules_186 rfl (by decide) rfl ?_
    refine wp_goto dX9_pileRules_189 ?_
    refine wp_iload dX9_pileRules_19 rfl ?_
    refine wp_iconst (v := (nI 2)) dX9_pileRules_21 (by decide +kernel) ?_
    refine wp_icmp_gt dX9_pileRules_22 (fun q => absurd q (by decide +kernel)) (fun _ => ?_)
    refine wp_iload_n dX9_pileRules_25 rfl rfl ?_
    refine wp_iload dX9_pileRules_26 rfl ?_
    refine wp_isub dX9_pileRules_28 ?_
    refine wp_aload_n dX9_pileRules_29 rfl rfl ?_
    refine wp_getIV dX9_pileRules_30 lX9_86 rfl zg_18.o zg_18.f1 ?_
    refine wp_icmp_lt dX9_pileRules_33 (fun q1 => ?_) (fun q1 => ?_)
    · have q1 := (sb_lt9 (by omega) (by decide) (by omega)).mp q1
      refine wp_vreturn dX9_pileRules_192 rfl ?_
      refine hq _ _ m18 k18 V18 (f18.up (fun _ h => h) (by omega)) (by omega) (by omega) tp_18 zg_18 pg_18 (fun x => ?_)
      rw [hs18 x]
      unfold bFs bNs
      constructor
      · rintro (h | ⟨ky, h1, h2⟩)
        · exact Or.inl h
        · exact Or.inr ⟨ky, Or.inl h1, h2⟩
      · rintro (h | ⟨ky, h1, h2⟩)
        · exact Or.inl (h)
        · rcases h1 with h1 | ⟨h3, w, h4, h1⟩ | ⟨h3, w, h4, h1⟩
          · exact Or.inr ⟨ky, h1, h2⟩
          · omega
          · omega
    · have q1 : rgA r pa f p + 1 ≤ rA r f p 0 := Nat.not_lt.mp (fun z => q1 ((sb_lt9 (by omega) (by decide) (by omega)).mpr z))
      refine wp_iconst (v := (nI 0)) dX9_pileRules_36 (by decide +kernel) ?_
      refine wp_istore (ls1 := [_, _, _, _, _, _, _, _, some _, _, _, _, _, _, _]) dX9_pileRules_37 (by decide) rfl ?_
      refine wp_iload dX9_pileRules_39 rfl ?_
      refine wp_iconst (v := (nI 1)) dX9_pileRules_41 (by decide +kernel) ?_
      refine wp_iload dX9_pileRules_42 rfl ?_
      refine wp_ishl dX9_pileRules_44 ?_
      refine wp_icmp_ge dX9_pileRules_45 (fun q => absurd q (by decide +kernel)) (fun _ => ?_)
      refine wp_iload dX9_pileRules_48 rfl ?_
      refine wp_if_ne dX9_pileRules_50 (fun _ => ?_) (fun q => absurd q (by decide +kernel))
      refine wp_aload_n dX9_pileRules_57 rfl rfl ?_
      refine wp_iload_n dX9_pileRules_58 rfl rfl ?_
      refine wp_iload dX9_pileRules_59 rfl ?_
      refine wp_isub dX9_pileRules_61 ?_
      refine wp_iload dX9_pileRules_62 rfl ?_
      refine wp_iconst (v := (nI 1)) dX9_pileRules_64 (by decide +kernel) ?_
      refine wp_iand dX9_pileRules_65 ?_
      refine wp_if_eq dX9_pileRules_66 (fun _ => ?_) (fun q => absurd (by decide +kernel) q)
      refine wp_iconst (v := (nI 0)) dX9_pileRules_73 (by decide +kernel) ?_
      refine wp_cV2 0 0 [some _, some _, some _] dX9_pileRules_74 tX6_itemAt rfl (by decide) nX6_itemAt vX6_itemAt lX9_89 ⟨by decide, by decide⟩ (Nat.le_of_ble_eq_true rfl) pg_18.oo (Nat.le_of_ble_eq_true rfl) rfl ?_
      try rw [pk_sub (by omega)]
      refine pX6_itemAt hd hp pg_18 (by decide) (fun i19 hi19 ei19 v19 hv19 => ?_) (fun xn19 => absurd xn19 (by rw [ix_nI (by omega) (by omega)]; exact fun z => by cases z))
      have ei19 := (nI_eq (by omega) (by omega)).mp ei19
      subst ei19
      have hv19 : v19 = itm (asC r p (rA r f p 0 - 1) 0) := hv19.elim (fun z => z.2) (fun z => absurd z.1 (by decide))
      subst hv19
      have hc19 := asC_b (i := rA r f p 0 - 1) (w := 0) hd.w hp (by omega)
      intro _ _
      refine wp_istore (ls1 := [_, _, _, _, _, _, _, _, _, some _, _, _, _, _, _]) dX9_pileRules_77 (by decide) rfl ?_
      refine wp_iload dX9_pileRules_79 rfl ?_
      refine wp_iconst (v := (nI 2)) dX9_pileRules_81 (by decide +kernel) ?_
      refine wp_icmp_ge dX9_pileRules_82 (fun q => absurd q (by decide +kernel)) (fun _ => ?_)
      refine wp_iconst (v := (-1)) dX9_pileRules_85 (by decide +kernel) ?_
      refine wp_goto dX9_pileRules_86 ?_
      refine wp_istore (ls1 := [_, _, _, _, _, _, _, _, _, _, some _, _, _, _, _]) dX9_pileRules_108 (by decide) rfl ?_
      refine wp_iconst (v := (nI 0)) dX9_pileRules_110 (by decide +kernel) ?_
      refine wp_istore (ls1 := [_, _, _, _, _, _, _, _, _, _, _, some _, _, _, _]) dX9_pileRules_111 (by decide) rfl ?_
      refine stops_loop (b := (asC r p (rA r f p 0 - 1) 0)) (c := 0) (ah := 1) (fo := 0) tp_18 hρ zg_18 hP hd hp pg_18 (by have := f18.1.2.2; omega) hf hmk (by omega) (by omega) (by omega) (Or.inr ⟨rfl, by omega⟩) (fun hh20 ow20 m20 k20 V20 y11 y12 y13 y14 f20 hm20 hk20 tp_20 zg_20 pg_20 hs20 => ?_)
      have bm20 := tPl_m tp_20
      refine wp_iinc1 (ls1 := [_, _, _, _, _, _, _, _, some _, _, _, _, _, _, _]) dX9_pileRules_180 rfl (by decide) rfl ?_
      refine wp_goto dX9_pileRules_183 ?_
      refine wp_iload dX9_pileRules_39 rfl ?_
      refine wp_iconst (v := (nI 1)) dX9_pileRules_41 (by decide +kernel) ?_
      refine wp_iload dX9_pileRules_42 rfl ?_
      refine wp_ishl dX9_pileRules_44 ?_
      refine wp_icmp_ge dX9_pileRules_45 (fun q => absurd q (by decide +kernel)) (fun _ => ?_)
      refine wp_iload dX9_pileRules_48 rfl ?_
      refine wp_if_ne dX9_pileRules_50 (fun _ => ?_) (fun q => absurd q (by decide +kernel))
      refine wp_aload_n dX9_pileRules_57 rfl rfl ?_
      refine wp_iload_n dX9_pileRules_58 rfl rfl ?_
      refine wp_iload dX9_pileRules_59 rfl ?_
      refine wp_isub dX9_pileRules_61 ?_
      refine wp_iload dX9_pileRules_62 rfl ?_
      refine wp_iconst (v := (nI 1)) dX9_pileRules_64 (by decide +kernel) ?_
      refine wp_iand dX9_pileRules_65 ?_
      refine wp_if_eq dX9_pileRules_66 (fun q => absurd q (by decide +kernel)) (fun _ => ?_)
      refine wp_iconst (v := (nI 1)) dX9_pileRules_69 (by decide +kernel) ?_
      refine wp_goto dX9_pileRules_70 ?_
      refine wp_cV2 0 0 [some _, some _, some _] dX9_pileRules_74 tX6_itemAt rfl (by decide) nX6_itemAt vX6_itemAt lX9_89 ⟨by decide, by decide⟩ (Nat.le_of_ble_eq_true rfl) pg_20.oo (Nat.le_of_ble_eq_true rfl) rfl ?_
      try rw [pk_sub (by omega)]
      refine pX6_itemAt hd hp pg_20 (by decide) (fun i21 hi21 ei21 v21 hv21 => ?_) (fun xn21 => absurd xn21 (by rw [ix_nI (by omega) (by omega)]; exact fun z => by cases z))
      have ei21 := (nI_eq (by omega) (by omega)).mp ei21
      subst ei21
      have hv21 : v21 = itm (asC r p (rA r f p 0 - 1) 1) := hv21.elim (fun z => absurd z.1 (by decide)) (fun z => z.2)
      subst hv21
      have hc21 := asC_b (i := rA r f p 0 - 1) (w := 1) hd.w hp (by omega)
      intro _ _
      refine wp_istore (ls1 := [_, _, _, _, _, _, _, _, _, some _, _, _, _, _, _]) dX9_pileRules_77 (by decide) rfl ?_
      refine wp_iload dX9_pileRules_79 rfl ?_
      refine wp_iconst (v := (nI 2)) dX9_pileRules_81 (by decide +kernel) ?_
      refine wp_icmp_ge dX9_pileRules_82 (fun q => absurd q (by decide +kernel)) (fun _ => ?_)
      refine wp_iconst (v := (-1)) dX9_pileRules_85 (by decide +kernel) ?_
      refine wp_goto dX9_pileRules_86 ?_
      refine wp_istore (ls1 := [_, _, _, _, _, _, _, _, _, _, some _, _, _, _, _]) dX9_pileRules_108 (by decide) rfl ?_
      refine wp_iconst (v := (nI 0)) dX9_pileRules_110 (by decide +kernel) ?_
      refine wp_istore (ls1 := [_, _, _, _, _, _, _, _, _, _, _, some _, _, _, _]) dX9_pileRules_111 (by decide) rfl ?_
      refine stops_loop (b := (asC r p (rA r f p 0 - 1) 1)) (c := 0) (ah := 1) (fo := 1) tp_20 hρ zg_20 hP hd hp pg_20 (by have := f18.1.2.2; have := f20.1.2.2; omega) hf hmk (by omega) (by omega) (by omega) (Or.inr ⟨rfl, by omega⟩) (fun hh22 ow22 m22 k22 V22 y11 y12 y13 y14 f22 hm22 hk22 tp_22 zg_22 pg_22 hs22 => ?_)
      have bm22 := tPl_m tp_22
      refine wp_iinc1 (ls1 := [_, _, _, _, _, _, _, _, some _, _, _, _, _, _, _]) dX9_pileRules_180 rfl (by decide) rfl ?_
      refine wp_goto dX9_pileRules_183 ?_
      refine wp_iload dX9_pileRules_39 rfl ?_
      refine wp_iconst (v := (nI 1)) dX9_pileRules_41 (by decide +kernel) ?_
      refine wp_iload dX9_pileRules_42 rfl ?_
      refine wp_ishl dX9_pileRules_44 ?_
      refine wp_icmp_ge dX9_pileRules_45 (fun _ => ?_) (fun q => absurd (by decide +kernel) q)
      refine wp_iinc1 (ls1 := [_, _, _, _, _, _, _, some _, _, _, _, _, _, _, _]) dX9_pileRules_186 rfl (by decide) rfl ?_
      refine wp_goto dX9_pileRules_189 ?_
      refine wp_iload dX9_pileRules_19 rfl ?_
      refine wp_iconst (v := (nI 2)) dX9_pileRules_21 (by decide +kernel) ?_
      refine wp_icmp_gt dX9_pileRules_22 (fun q => absurd q (by decide +kernel)) (fun _ => ?_)
      refine wp_iload_n dX9_pileRules_25 rfl rfl ?_
      refine wp_iload dX9_pileRules_26 rfl ?_
      refine wp_isub dX9_pileRules_28 ?_
      refine wp_aload_n dX9_pileRules_29 rfl rfl ?_
      refine wp_getIV dX9_pileRules_30 lX9_86 rfl zg_22.o zg_22.f1 ?_
      refine wp_icmp_lt dX9_pileRules_33 (fun q2 => ?_) (fun q2 => ?_)
      · have q2 := (sb_lt9 (by omega) (by decide) (by omega)).mp q2
        refine wp_vreturn dX9_pileRules_192 rfl ?_
        refine hq _ _ m22 k22 V22 (((f18.tr f20).tr f22).up (fun _ h => h) (by omega)) (by omega) (by omega) tp_22 zg_22 pg_22 (fun x => ?_)
        rw [hs22 x, hs20 x, hs18 x]
        unfold bFs bNs
        constructor
        · rintro (((h | ⟨ky, h1, h2⟩) | ⟨ky, h1, h2⟩) | ⟨ky, h1, h2⟩)
          · exact Or.inl h
          · exact Or.inr ⟨ky, Or.inl h1, h2⟩
          · exact Or.inr ⟨ky, Or.inr (Or.inl ⟨by omega, 0, by decide, h1⟩), h2⟩
          · exact Or.inr ⟨ky, Or.inr (Or.inl ⟨by omega, 1, by decide, h1⟩), h2⟩
        · rintro (h | ⟨ky, h1, h2⟩)
          · exact Or.inl (Or.inl (Or.inl (h)))
          · rcases h1 with h1 | ⟨h3, w, h4, h1⟩ | ⟨h3, w, h4, h1⟩
            · exact Or.inl (Or.inl (Or.inr ⟨ky, h1, h2⟩))
            · rcases (by omega : w = 0 ∨ w = 1) with rfl | rfl
              · exact Or.inl (Or.inr ⟨ky, h1, h2⟩)
              · exact Or.inr ⟨ky, h1, h2⟩
            · omega
      · have q2 : rgA r pa f p + 2 ≤ rA r f p 0 := Nat.not_lt.mp (fun z => q2 ((sb_lt9 (by omega) (by decide) (by omega)).mpr z))
        refine wp_iconst (v := (nI 0)) dX9_pileRules_36 (by decide +kernel) ?_
        refine wp_istore (ls1 := [_, _, _, _, _, _, _, _, some _, _, _, _, _, _, _]) dX9_pileRules_37 (by decide) rfl ?_
        refine wp_iload dX9_pileRules_39 rfl ?_
        refine wp_iconst (v := (nI 1)) dX9_pileRules_41 (by decide +kernel) ?_
        refine wp_iload dX9_pileRules_42 rfl ?_
        refine wp_ishl dX9_pileRules_44 ?_
        refine wp_icmp_ge dX9_pileRules_45 (fun q => absurd q (by decide +kernel)) (fun _ => ?_)
        refine wp_iload dX9_pileRules_48 rfl ?_
        refine wp_if_ne dX9_pileRules_50 (fun _ => ?_) (fun q => absurd q (by decide +kernel))
        refine wp_aload_n dX9_pileRules_57 rfl rfl ?_
        refine wp_iload_n dX9_pileRules_58 rfl rfl ?_
        refine wp_iload dX9_pileRules_59 rfl ?_
        refine wp_isub dX9_pileRules_61 ?_
        refine wp_iload dX9_pileRules_62 rfl ?_
        refine wp_iconst (v := (nI 1)) dX9_pileRules_64 (by decide +kernel) ?_
        refine wp_iand dX9_pileRules_65 ?_
        refine wp_if_eq dX9_pileRules_66 (fun _ => ?_) (fun q => absurd (by decide +kernel) q)
        refine wp_iconst (v := (nI 0)) dX9_pileRules_73 (by decide +kernel) ?_
        refine wp_cV2 0 0 [some _, some _, some _] dX9_pileRules_74 tX6_itemAt rfl (by decide) nX6_itemAt vX6_itemAt lX9_89 ⟨by decide, by decide⟩ (Nat.le_of_ble_eq_true rfl) pg_22.oo (Nat.le_of_ble_eq_true rfl) rfl ?_
        try rw [pk_sub (by omega)]
        refine pX6_itemAt hd hp pg_22 (by decide) (fun i23 hi23 ei23 v23 hv23 => ?_) (fun xn23 => absurd xn23 (by rw [ix_nI (by omega) (by omega)]; exact fun z => by cases z))
        have ei23 := (nI_eq (by omega) (by omega)).mp ei23
        subst ei23
        have hv23 : v23 = itm (asC r p (rA r f p 0 - 2) 0) := hv23.elim (fun z => z.2) (fun z => absurd z.1 (by decide))
        subst hv23
        have hc23 := asC_b (i := rA r f p 0 - 2) (w := 0) hd.w hp (by omega)
        intro _ _
        refine wp_istore (ls1 := [_, _, _, _, _, _, _, _, _, some _, _, _, _, _, _]) dX9_pileRules_77 (by decide) rfl ?_
        refine wp_iload dX9_pileRules_79 rfl ?_
        refine wp_iconst (v := (nI 2)) dX9_pileRules_81 (by decide +kernel) ?_
        refine wp_icmp_ge dX9_pileRules_82 (fun _ => ?_) (fun q => absurd (by decide +kernel) q)
        refine wp_aload_n dX9_pileRules_89 rfl rfl ?_
        refine wp_iload_n dX9_pileRules_90 rfl rfl ?_
        refine wp_iconst (v := (nI 1)) dX9_pileRules_91 (by decide +kernel) ?_
        refine wp_isub dX9_pileRules_92 ?_
        refine wp_iload dX9_pileRules_93 rfl ?_
        refine wp_iconst (v := (nI 2)) dX9_pileRules_95 (by decide +kernel) ?_
        refine wp_iand dX9_pileRules_96 ?_
        refine wp_if_eq dX9_pileRules_97 (fun _ => ?_) (fun q => absurd (by decide +kernel) q)
        refine wp_iconst (v := (nI 0)) dX9_pileRules_104 (by decide +kernel) ?_
        refine wp_cV2 0 0 [some _, some _, some _] dX9_pileRules_105 tX6_itemAt rfl (by decide) nX6_itemAt vX6_itemAt lX9_89 ⟨by decide, by decide⟩ (Nat.le_of_ble_eq_true rfl) pg_22.oo (Nat.le_of_ble_eq_true rfl) rfl ?_
        try rw [pk_sub (by omega)]
        refine pX6_itemAt hd hp pg_22 (by decide) (fun i24 hi24 ei24 v24 hv24 => ?_) (fun xn24 => absurd xn24 (by rw [ix_nI (by omega) (by omega)]; exact fun z => by cases z))
        have ei24 := (nI_eq (by omega) (by omega)).mp ei24
        subst ei24
        have hv24 : v24 = itm (asC r p (rA r f p 0 - 1) 0) := hv24.elim (fun z => z.2) (fun z => absurd z.1 (by decide))
        subst hv24
        have hc24 := asC_b (i := rA r f p 0 - 1) (w := 0) hd.w hp (by omega)
        intro _ _
        refine wp_istore (ls1 := [_, _, _, _, _, _, _, _, _, _, some _, _, _, _, _]) dX9_pileRules_108 (by decide) rfl ?_
        refine wp_iconst (v := (nI 0)) dX9_pileRules_110 (by decide +kernel) ?_
        refine wp_istore (ls1 := [_, _, _, _, _, _, _, _, _, _, _, some _, _, _, _]) dX9_pileRules_111 (by decide) rfl ?_
        refine stops_loop (b := (asC r p (rA r f p 0 - 2) 0)) (c := (asC r p (rA r f p 0 - 1) 0)) (ah := 2) (fo := 0) tp_22 hρ zg_22 hP hd hp pg_22 (by have := f18.1.2.2; have := f20.1.2.2; have := f22.1.2.2; omega) hf hmk (by omega) (by omega) (by omega) (Or.inr ⟨rfl, by omega⟩) (fun hh25 ow25 m25 k25 V25 y11 y12 y13 y14 f25 hm25 hk25 tp_25 zg_25 pg_25 hs25 => ?_)
        have bm25 := tPl_m tp_25
        refine wp_iinc1 (ls1 := [_, _, _, _, _, _, _, _, some _, _, _, _, _, _, _]) dX9_pileRules_180 rfl (by decide) rfl ?_
        refine wp_goto dX9_pileRules_183 ?_
        refine wp_iload dX9_pileRules_39 rfl ?_
        refine wp_iconst (v := (nI 1)) dX9_pileRules_41 (by decide +kernel) ?_
        refine wp_iload dX9_pileRules_42 rfl ?_
        refine wp_ishl dX9_pileRules_44 ?_
        refine wp_icmp_ge dX9_pileRules_45 (fun q => absurd q (by decide +kernel)) (fun _ => ?_)
        refine wp_iload dX9_pileRules_48 rfl ?_
        refine wp_if_ne dX9_pileRules_50 (fun _ => ?_) (fun q => absurd q (by decide +kernel))
        refine wp_aload_n dX9_pileRules_57 rfl rfl ?_
        refine wp_iload_n dX9_pileRules_58 rfl rfl ?_
        refine wp_iload dX9_pileRules_59 rfl ?_
        refine wp_isub dX9_pileRules_61 ?_
        refine wp_iload dX9_pileRules_62 rfl ?_
        refine wp_iconst (v := (nI 1)) dX9_pileRules_64 (by decide +kernel) ?_
        refine wp_iand dX9_pileRules_65 ?_
        refine wp_if_eq dX9_pileRules_66 (fun q => absurd q (by decide +kernel)) (fun _ => ?_)
        refine wp_iconst (v := (nI 1)) dX9_pileRules_69 (by decide +kernel) ?_
        refine wp_goto dX9_pileRules_70 ?_
        refine wp_cV2 0 0 [some _, some _, some _] dX9_pileRules_74 tX6_itemAt rfl (by decide) nX6_itemAt vX6_itemAt lX9_89 ⟨by decide, by decide⟩ (Nat.le_of_ble_eq_true rfl) pg_25.oo (Nat.le_of_ble_eq_true rfl) rfl ?_
        try rw [pk_sub (by omega)]
        refine pX6_itemAt hd hp pg_25 (by decide) (fun i26 hi26 ei26 v26 hv26 => ?_) (fun xn26 => absurd xn26 (by rw [ix_nI (by omega) (by omega)]; exact fun z => by cases z))
        have ei26 := (nI_eq (by omega) (by omega)).mp ei26
        subst ei26
        have hv26 : v26 = itm (asC r p (rA r f p 0 - 2) 1) := hv26.elim (fun z => absurd z.1 (by decide)) (fun z => z.2)
        subst hv26
        have hc26 := asC_b (i := rA r f p 0 - 2) (w := 1) hd.w hp (by omega)
        intro _ _
        refine wp_istore (ls1 := [_, _, _, _, _, _, _, _, _, some _, _, _, _, _, _]) dX9_pileRules_77 (by decide) rfl ?_
        refine wp_iload dX9_pileRules_79 rfl ?_
        refine wp_iconst (v := (nI 2)) dX9_pileRules_81 (by decide +kernel) ?_
        refine wp_icmp_ge dX9_pileRules_82 (fun _ => ?_) (fun q => absurd (by decide +kernel) q)
        refine wp_aload_n dX9_pileRules_89 rfl rfl ?_
        refine wp_iload_n dX9_pileRules_90 rfl rfl ?_
        refine wp_iconst (v := (nI 1)) dX9_pileRules_91 (by decide +kernel) ?_
        refine wp_isub dX9_pileRules_92 ?_
        refine wp_iload dX9_pileRules_93 rfl ?_
        refine wp_iconst (v := (nI 2)) dX9_pileRules_95 (by decide +kernel) ?_
        refine wp_iand dX9_pileRules_96 ?_
        refine wp_if_eq dX9_pileRules_97 (fun _ => ?_) (fun q => absurd (by decide +kernel) q)
        refine wp_iconst (v := (nI 0)) dX9_pileRules_104 (by decide +kernel) ?_
        refine wp_cV2 0 0 [some _, some _, some _] dX9_pileRules_105 tX6_itemAt rfl (by decide) nX6_itemAt vX6_itemAt lX9_89 ⟨by decide, by decide⟩ (Nat.le_of_ble_eq_true rfl) pg_25.oo (Nat.le_of_ble_eq_true rfl) rfl ?_
        try rw [pk_sub (by omega)]
        refine pX6_itemAt hd hp pg_25 (by decide) (fun i27 hi27 ei27 v27 hv27 => ?_) (fun xn27 => absurd xn27 (by rw [ix_nI (by omega) (by omega)]; exact fun z => by cases z))
        have ei27 := (nI_eq (by omega) (by omega)).mp ei27
        subst ei27
        have hv27 : v27 = itm (asC r p (rA r f p 0 - 1) 0) := hv27.elim (fun z => z.2) (fun z => absurd z.1 (by decide))
        subst hv27
        have hc27 := asC_b (i := rA r f p 0 - 1) (w := 0) hd.w hp (by omega)
        intro _ _
        refine wp_istore (ls1 := [_, _, _, _, _, _, _, _, _, _, some _, _, _, _, _]) dX9_pileRules_108 (by decide) rfl ?_
        refine wp_iconst (v := (nI 0)) dX9_pileRules_110 (by decide +kernel) ?_
        refine wp_istore (ls1 := [_, _, _, _, _, _, _, _, _, _, _, some _, _, _, _]) dX9_pileRules_111 (by decide) rfl ?_
        refine stops_loop (b := (asC r p (rA r f p 0 - 2) 1)) (c := (asC r p (rA r f p 0 - 1) 0)) (ah := 2) (fo := 1) tp_25 hρ zg_25 hP hd hp pg_25 (by have := f18.1.2.2; have := f20.1.2.2; have := f22.1.2.2; have := f25.1.2.2; omega) hf hmk (by omega) (by omega) (by omega) (Or.inr ⟨rfl, by omega⟩) (fun hh28 ow28 m28 k28 V28 y11 y12 y13 y14 f28 hm28 hk28 tp_28 zg_28 pg_28 hs28 => ?_)
        have bm28 := tPl_m tp_28
        refine wp_iinc1 (ls1 := [_, _, _, _, _, _, _, _, some _, _, _, _, _, _, _]) dX9_pileRules_180 rfl (by decide) rfl ?_
        refine wp_goto dX9_pileRules_183 ?_
        refine wp_iload dX9_pileRules_39 rfl ?_
        refine wp_iconst (v := (nI 1)) dX9_pileRules_41 (by decide +kernel) ?_
        refine wp_iload dX9_pileRules_42 rfl ?_
        refine wp_ishl dX9_pileRules_44 ?_
        refine wp_icmp_ge dX9_pileRules_45 (fun q => absurd q (by decide +kernel)) (fun _ => ?_)
        refine wp_iload dX9_pileRules_48 rfl ?_
        refine wp_if_ne dX9_pileRules_50 (fun _ => ?_) (fun q => absurd q (by decide +kernel))
        refine wp_aload_n dX9_pileRules_57 rfl rfl ?_
        refine wp_iload_n dX9_pileRules_58 rfl rfl ?_
        refine wp_iload dX9_pileRules_59 rfl ?_
        refine wp_isub dX9_pileRules_61 ?_
        refine wp_iload dX9_pileRules_62 rfl ?_
        refine wp_iconst (v := (nI 1)) dX9_pileRules_64 (by decide +kernel) ?_
        refine wp_iand dX9_pileRules_65 ?_
        refine wp_if_eq dX9_pileRules_66 (fun _ => ?_) (fun q => absurd (by decide +kernel) q)
        refine wp_iconst (v := (nI 0)) dX9_pileRules_73 (by decide +kernel) ?_
        refine wp_cV2 0 0 [some _, some _, some _] dX9_pileRules_74 tX6_itemAt rfl (by decide) nX6_itemAt vX6_itemAt lX9_89 ⟨by decide, by decide⟩ (Nat.le_of_ble_eq_true rfl) pg_28.oo (Nat.le_of_ble_eq_true rfl) rfl ?_
        try rw [pk_sub (by omega)]
        refine pX6_itemAt hd hp pg_28 (by decide) (fun i29 hi29 ei29 v29 hv29 => ?_) (fun xn29 => absurd xn29 (by rw [ix_nI (by omega) (by omega)]; exact fun z => by cases z))
        have ei29 := (nI_eq (by omega) (by omega)).mp ei29
        subst ei29
        have hv29 : v29 = itm (asC r p (rA r f p 0 - 2) 0) := hv29.elim (fun z => z.2) (fun z => absurd z.1 (by decide))
        subst hv29
        have hc29 := asC_b (i := rA r f p 0 - 2) (w := 0) hd.w hp (by omega)
        intro _ _
        refine wp_istore (ls1 := [_, _, _, _, _, _, _, _, _, some _, _, _, _, _, _]) dX9_pileRules_77 (by decide) rfl ?_
        refine wp_iload dX9_pileRules_79 rfl ?_
        refine wp_iconst (v := (nI 2)) dX9_pileRules_81 (by decide +kernel) ?_
        refine wp_icmp_ge dX9_pileRules_82 (fun _ => ?_) (fun q => absurd (by decide +kernel) q)
        refine wp_aload_n dX9_pileRules_89 rfl rfl ?_
        refine wp_iload_n dX9_pileRules_90 rfl rfl ?_
        refine wp_iconst (v := (nI 1)) dX9_pileRules_91 (by decide +kernel) ?_
        refine wp_isub dX9_pileRules_92 ?_
        refine wp_iload dX9_pileRules_93 rfl ?_
        refine wp_iconst (v := (nI 2)) dX9_pileRules_95 (by decide +kernel) ?_
        refine wp_iand dX9_pileRules_96 ?_
        refine wp_if_eq dX9_pileRules_97 (fun q => absurd q (by decide +kernel)) (fun _ => ?_)
        refine wp_iconst (v := (nI 1)) dX9_pileRules_100 (by decide +kernel) ?_
        refine wp_goto dX9_pileRules_101 ?_
        refine wp_cV2 0 0 [some _, some _, some _] dX9_pileRules_105 tX6_itemAt rfl (by decide) nX6_itemAt vX6_itemAt lX9_89 ⟨by decide, by decide⟩ (Nat.le_of_ble_eq_true rfl) pg_28.oo (Nat.le_of_ble_eq_true rfl) rfl ?_
        try rw [pk_sub (by omega)]
        refine pX6_itemAt hd hp pg_28 (by decide) (fun i30 hi30 ei30 v30 hv30 => ?_) (fun xn30 => absurd xn30 (by rw [ix_nI (by omega) (by omega)]; exact fun z => by cases z))
        have ei30 := (nI_eq (by omega) (by omega)).mp ei30
        subst ei30
        have hv30 : v30 = itm (asC r p (rA r f p 0 - 1) 1) := hv30.elim (fun z => absurd z.1 (by decide)) (fun z => z.2)
        subst hv30
        have hc30 := asC_b (i := rA r f p 0 - 1) (w := 1) hd.w hp (by omega)
        intro _ _
        refine wp_istore (ls1 := [_, _, _, _, _, _, _, _, _, _, some _, _, _, _, _]) dX9_pileRules_108 (by decide) rfl ?_
        refine wp_iconst (v := (nI 0)) dX9_pileRules_110 (by decide +kernel) ?_
        refine wp_istore (ls1 := [_, _, _, _, _, _, _, _, _, _, _, some _, _, _, _]) dX9_pileRules_111 (by decide) rfl ?_
        refine stops_loop (b := (asC r p (rA r f p 0 - 2) 0)) (c := (asC r p (rA r f p 0 - 1) 1)) (ah := 2) (fo := 2) tp_28 hρ zg_28 hP hd hp pg_28 (by have := f18.1.2.2; have := f20.1.2.2; have := f22.1.2.2; have := f25.1.2.2; have := f28.1.2.2; omega) hf hmk (by omega) (by omega) (by omega) (Or.inr ⟨rfl, by omega⟩) (fun hh31 ow31 m31 k31 V31 y11 y12 y13 y14 f31 hm31 hk31 tp_31 zg_31 pg_31 hs31 => ?_)
        have bm31 := tPl_m tp_31
        refine wp_iinc1 (ls1 := [_, _, _, _, _, _, _, _, some _, _, _, _, _, _, _]) dX9_pileRules_180 rfl (by decide) rfl ?_
        refine wp_goto dX9_pileRules_183 ?_
        refine wp_iload dX9_pileRules_39 rfl ?_
        refine wp_iconst (v := (nI 1)) dX9_pileRules_41 (by decide +kernel) ?_
        refine wp_iload dX9_pileRules_42 rfl ?_
        refine wp_ishl dX9_pileRules_44 ?_
        refine wp_icmp_ge dX9_pileRules_45 (fun q => absurd q (by decide +kernel)) (fun _ => ?_)
        refine wp_iload dX9_pileRules_48 rfl ?_
        refine wp_if_ne dX9_pileRules_50 (fun _ => ?_) (fun q => absurd q (by decide +kernel))
        refine wp_aload_n dX9_pileRules_57 rfl rfl ?_
        refine wp_iload_n dX9_pileRules_58 rfl rfl ?_
        refine wp_iload dX9_pileRules_59 rfl ?_
        refine wp_isub dX9_pileRules_61 ?_
        refine wp_iload dX9_pileRules_62 rfl ?_
        refine wp_iconst (v := (nI 1)) dX9_pileRules_64 (by decide +kernel) ?_
        refine wp_iand dX9_pileRules_65 ?_
        refine wp_if_eq dX9_pileRules_66 (fun q => absurd q (by decide +kernel)) (fun _ => ?_)
        refine wp_iconst (v := (nI 1)) dX9_pileRules_69 (by decide +kernel) ?_
        refine wp_goto dX9_pileRules_70 ?_
        refine wp_cV2 0 0 [some _, some _, some _] dX9_pileRules_74 tX6_itemAt rfl (by decide) nX6_itemAt vX6_itemAt lX9_89 ⟨by decide, by decide⟩ (Nat.le_of_ble_eq_true rfl) pg_31.oo (Nat.le_of_ble_eq_true rfl) rfl ?_
        try rw [pk_sub (by omega)]
        refine pX6_itemAt hd hp pg_31 (by decide) (fun i32 hi32 ei32 v32 hv32 => ?_) (fun xn32 => absurd xn32 (by rw [ix_nI (by omega) (by omega)]; exact fun z => by cases z))
        have ei32 := (nI_eq (by omega) (by omega)).mp ei32
        subst ei32
        have hv32 : v32 = itm (asC r p (rA r f p 0 - 2) 1) := hv32.elim (fun z => absurd z.1 (by decide)) (fun z => z.2)
        subst hv32
        have hc32 := asC_b (i := rA r f p 0 - 2) (w := 1) hd.w hp (by omega)
        intro _ _
        refine wp_istore (ls1 := [_, _, _, _, _, _, _, _, _, some _, _, _, _, _, _]) dX9_pileRules_77 (by decide) rfl ?_
        refine wp_iload dX9_pileRules_79 rfl ?_
        refine wp_iconst (v := (nI 2)) dX9_pileRules_81 (by decide +kernel) ?_
        refine wp_icmp_ge dX9_pileRules_82 (fun _ => ?_) (fun q => absurd (by decide +kernel) q)
        refine wp_aload_n dX9_pileRules_89 rfl rfl ?_
        refine wp_iload_n dX9_pileRules_90 rfl rfl ?_
        refine wp_iconst (v := (nI 1)) dX9_pileRules_91 (by decide +kernel) ?_
        refine wp_isub dX9_pileRules_92 ?_
        refine wp_iload dX9_pileRules_93 rfl ?_
        refine wp_iconst (v := (nI 2)) dX9_pileRules_95 (by decide +kernel) ?_
        refine wp_iand dX9_pileRules_96 ?_
        refine wp_if_eq dX9_pileRules_97 (fun q => absurd q (by decide +kernel)) (fun _ => ?_)
        refine wp_iconst (v := (nI 1)) dX9_pileRules_100 (by decide +kernel) ?_
        refine wp_goto dX9_pileRules_101 ?_
        refine wp_cV2 0 0 [some _, some _, some _] dX9_pileRules_105 tX6_itemAt rfl (by decide) nX6_itemAt vX6_itemAt lX9_89 ⟨by decide, by decide⟩ (Nat.le_of_ble_eq_true rfl) pg_31.oo (Nat.le_of_ble_eq_true rfl) rfl ?_
        try rw [pk_sub (by omega)]
        refine pX6_itemAt hd hp pg_31 (by decide) (fun i33 hi33 ei33 v33 hv33 => ?_) (fun xn33 => absurd xn33 (by rw [ix_nI (by omega) (by omega)]; exact fun z => by cases z))
        have ei33 := (nI_eq (by omega) (by omega)).mp ei33
        subst ei33
        have hv33 : v33 = itm (asC r p (rA r f p 0 - 1) 1) := hv33.elim (fun z => absurd z.1 (by decide)) (fun z => z.2)
        subst hv33
        have hc33 := asC_b (i := rA r f p 0 - 1) (w := 1) hd.w hp (by omega)
        intro _ _
        refine wp_istore (ls1 := [_, _, _, _, _, _, _, _, _, _, some _, _, _, _, _]) dX9_pileRules_108 (by decide) rfl ?_
        refine wp_iconst (v := (nI 0)) dX9_pileRules_110 (by decide +kernel) ?_
        refine wp_istore (ls1 := [_, _, _, _, _, _, _, _, _, _, _, some _, _, _, _]) dX9_pileRules_111 (by decide) rfl ?_
        refine stops_loop (b := (asC r p (rA r f p 0 - 2) 1)) (c := (asC r p (rA r f p 0 - 1) 1)) (ah := 2) (fo := 3) tp_31 hρ zg_31 hP hd hp pg_31 (by have := f18.1.2.2; have := f20.1.2.2; have := f22.1.2.2; have := f25.1.2.2; have := f28.1.2.2; have := f31.1.2.2; omega) hf hmk (by omega) (by omega) (by omega) (Or.inr ⟨rfl, by omega⟩) (fun hh34 ow34 m34 k34 V34 y11 y12 y13 y14 f34 hm34 hk34 tp_34 zg_34 pg_34 hs34 => ?_)
        have bm34 := tPl_m tp_34
        refine wp_iinc1 (ls1 := [_, _, _, _, _, _, _, _, some _, _, _, _, _, _, _]) dX9_pileRules_180 rfl (by decide) rfl ?_
        refine wp_goto dX9_pileRules_183 ?_
        refine wp_iload dX9_pileRules_39 rfl ?_
        refine wp_iconst (v := (nI 1)) dX9_pileRules_41 (by decide +kernel) ?_
        refine wp_iload dX9_pileRules_42 rfl ?_
        refine wp_ishl dX9_pileRules_44 ?_
        refine wp_icmp_ge dX9_pileRules_45 (fun _ => ?_) (fun q => absurd (by decide +kernel) q)
        refine wp_iinc1 (ls1 := [_, _, _, _, _, _, _, some _, _, _, _, _, _, _, _]) dX9_pileRules_186 rfl (by decide) rfl ?_
        refine wp_goto dX9_pileRules_189 ?_
        refine wp_iload dX9_pileRules_19 rfl ?_
        refine wp_iconst (v := (nI 2)) dX9_pileRules_21 (by decide +kernel) ?_
        refine wp_icmp_gt dX9_pileRules_22 (fun _ => ?_) (fun q => absurd (by decide +kernel) q)
        refine wp_vreturn dX9_pileRules_192 rfl ?_
        refine hq _ _ m34 k34 V34 (((((((f18.tr f20).tr f22).tr f25).tr f28).tr f31).tr f34).up (fun _ h => h) (by omega)) (by omega) (by omega) tp_34 zg_34 pg_34 (fun x => ?_)
        rw [hs34 x, hs31 x, hs28 x, hs25 x, hs22 x, hs20 x, hs18 x]
        unfold bFs bNs
        constructor
        · rintro (((((((h | ⟨ky, h1, h2⟩) | ⟨ky, h1, h2⟩) | ⟨ky, h1, h2⟩) | ⟨ky, h1, h2⟩) | ⟨ky, h1, h2⟩) | ⟨ky, h1, h2⟩) | ⟨ky, h1, h2⟩)
          · exact Or.inl h
          · exact Or.inr ⟨ky, Or.inl h1, h2⟩
          · exact Or.inr ⟨ky, Or.inr (Or.inl ⟨by omega, 0, by decide, h1⟩), h2⟩
          · exact Or.inr ⟨ky, Or.inr (Or.inl ⟨by omega, 1, by decide, h1⟩), h2⟩
          · exact Or.inr ⟨ky, Or.inr (Or.inr ⟨by omega, 0, by decide, h1⟩), h2⟩
          · exact Or.inr ⟨ky, Or.inr (Or.inr ⟨by omega, 2, by decide, h1⟩), h2⟩
          · exact Or.inr ⟨ky, Or.inr (Or.inr ⟨by omega, 1, by decide, h1⟩), h2⟩
          · exact Or.inr ⟨ky, Or.inr (Or.inr ⟨by omega, 3, by decide, h1⟩), h2⟩
        · rintro (h | ⟨ky, h1, h2⟩)
          · exact Or.inl (Or.inl (Or.inl (Or.inl (Or.inl (Or.inl (Or.inl (h)))))))
          · rcases h1 with h1 | ⟨h3, w, h4, h1⟩ | ⟨h3, w, h4, h1⟩
            · exact Or.inl (Or.inl (Or.inl (Or.inl (Or.inl (Or.inl (Or.inr ⟨ky, h1, h2⟩))))))
            · rcases (by omega : w = 0 ∨ w = 1) with rfl | rfl
              · exact Or.inl (Or.inl (Or.inl (Or.inl (Or.inl (Or.inr ⟨ky, h1, h2⟩)))))
              · exact Or.inl (Or.inl (Or.inl (Or.inl (Or.inr ⟨ky, h1, h2⟩))))
            · rcases (by omega : w = 0 ∨ w = 1 ∨ w = 2 ∨ w = 3) with rfl | rfl | rfl | rfl
              · exact Or.inl (Or.inl (Or.inl (Or.inr ⟨ky, h1, h2⟩)))
              · exact Or.inl (Or.inr ⟨ky, h1, h2⟩)
              · exact Or.inl (Or.inl (Or.inr ⟨ky, h1, h2⟩))
              · exact Or.inr ⟨ky, h1, h2⟩
