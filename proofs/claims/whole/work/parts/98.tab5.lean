/-! ===== rules by an example are piled up ===== -/
def pSt (V : Nat → Nat) (k x : Nat) : Prop := ∃ i, i < k ∧ V i = x
theorem pSt_up {V : Nat → Nat} {k v x : Nat} : pSt (upN V k v) (k + 1) x ↔ pSt V k x ∨ x = v := by
  constructor
  · rintro ⟨i, hi, e⟩
    by_cases z : i = k
    · rw [z, upN_at] at e; exact Or.inr e.symm
    · rw [upN_ne z] at e; exact Or.inl ⟨i, by omega, e⟩
  · rintro (⟨i, hi, e⟩ | e)
    · exact ⟨i, by omega, by rw [upN_ne (by omega)]; exact e⟩
    · exact ⟨k, by omega, by rw [upN_at, e]⟩
/-- a rule with each landmark from s on, ahead of e -/
def farS (r : Nat → Int64) (p s e b c d key : Nat) : Prop := key = kN 0 b c d ∨ ∃ i, s ≤ i ∧ i < e ∧ ∃ w, w < 2 ∧ key = kN (asC r p i w) b c d
theorem farS_s {r : Nat → Int64} {p s i b c d key : Nat} (hi : s ≤ i) : farS r p s (i + 1) b c d key ↔ farS r p s i b c d key ∨ key = kN (asC r p i 0) b c d ∨ key = kN (asC r p i 1) b c d := by
  unfold farS
  constructor
  · rintro (h | ⟨j, h1, h2, w, h3, h4⟩)
    · exact Or.inl (Or.inl h)
    · by_cases z : j = i
      · subst z
        rcases (by omega : w = 0 ∨ w = 1) with rfl | rfl
        · exact Or.inr (Or.inl h4)
        · exact Or.inr (Or.inr h4)
      · exact Or.inl (Or.inr ⟨j, h1, by omega, w, h3, h4⟩)
  · rintro ((h | ⟨j, h1, h2, w, h3, h4⟩) | h | h)
    · exact Or.inl h
    · exact Or.inr ⟨j, h1, by omega, w, h3, h4⟩
    · exact Or.inr ⟨i, hi, by omega, 0, by decide, h⟩
    · exact Or.inr ⟨i, hi, by omega, 1, by decide, h⟩
theorem asC_b {r : Nat → Int64} {p i w : Nat} (hw : WF r) (hp : p < rP r) (hi : i < rT r p) : 0 < asC r p i w ∧ asC r p i w ≤ 243 := by
  have h1 := kd_lt (rW r p i)
  have h2 := idxA_lt hp hi
  have h3 := uqA_len hw
  unfold asC
  split <;> omega
/-- an item that stands ahead is there already -/
theorem far_old {r : Nat → Int64} {p s i b c d w : Nat} (hw : WF r) (hp : p < rP r) (hT : rT r p ≤ 40) (hi : i < rT r p) (hw2 : w < 2) (h : ¬ ∀ j, s ≤ j → j < i → pmR r p (-1) (nI (asC r p i w - 1)) j = false) : farS r p s i b c d (kN (asC r p i w) b c d) := by
  have h3 := uqA_len hw
  have hkd := kd_lt (rW r p i)
  have hix := idxA_lt hp hi
  obtain ⟨j, hj⟩ := Classical.not_forall.mp h
  rw [Classical.not_imp, Classical.not_imp] at hj
  obtain ⟨h1, h2, hn⟩ := hj
  have hn : pmR r p (-1) (nI (asC r p i w - 1)) j = true := by simpa using hn
  have hjT : j < rT r p := by omega
  have hkj := kd_lt (rW r p j)
  have hij := idxA_lt hp hjT
  refine Or.inr ⟨j, h1, h2, w, hw2, ?_⟩
  congr 1
  unfold pmR at hn
  rw [rwW_m1 hT hjT] at hn
  rcases (by omega : w = 0 ∨ w = 1) with rfl | rfl
  · have e : asC r p i 0 = kd (rW r p i) + 1 := if_pos rfl
    have e2 : asC r p j 0 = kd (rW r p j) + 1 := if_pos rfl
    rw [e, Nat.add_sub_cancel, if_pos (nI_lt (by omega) (by decide))] at hn
    have := (nI_eq (by omega) (by omega)).mp (of_decide_eq_true hn)
    rw [e, e2, this]
  · have e : asC r p i 1 = (uqA r).idxOf (rW r p i) + 4 := if_neg (by decide)
    have e2 : asC r p j 1 = (uqA r).idxOf (rW r p j) + 4 := if_neg (by decide)
    rw [e, show (uqA r).idxOf (rW r p i) + 4 - 1 = (uqA r).idxOf (rW r p i) + 3 by omega, if_neg (nI_nlt (by omega) (by omega)), pk_sub (by omega)] at hn
    have := (nI_eq (by omega) (by omega)).mp (of_decide_eq_true hn)
    rw [e, e2]
    omega
theorem tPl_m {ow : Nat → Nat} {h : mH} {a ρ k m n : Nat} {V : Nat → Nat} (g : tPl ow h a ρ k m n V) : k ≤ m ∧ 64 ≤ m ∧ m ≤ 20480 := by
  obtain ⟨a2, a3, a4, a5, a6, a7, tf, tc, t2, t3, t4, t5, t6, t7, z, hm, hz⟩ := g
  exact hm
theorem new_as {h : mH} {Q : Option Value → mH → Prop} {ow : Nat → Nat} {pl : Nat → Int64} {ge : Int32} {gs gn : Int64} {gf gt : Int32} {P : Int32 → Nat → Bool} {len it s a : Nat} {x : Int32} (ex : x = nI it) (zg : zG ow h pl (nI s) ge gs gn gf gt) (hP : gP pl P len) (hl : len ≤ 40) (hit : it < 243) (hs : s ≤ a) (ha : a ≤ len) (ht : (∀ j, s ≤ j → j < a → P (nI it) j = false) → Q (some (.int (nI 1))) h) (hf : ¬ (∀ j, s ≤ j → j < a → P (nI it) j = false) → Q (some (.int (nI 0))) h) : Wp mX2_isNewAt 0 0 0 [some (.ref 115), some (.int x), some (.int (nI a))] [] h Q := by
  subst ex
  exact pX2_isNewAt zg hP hl hit hs ha ht hf
set_option maxRecDepth 20000 in
theorem pX9_pileFars {h : mH} {Q : Option Value → mH → Prop} {ow : Nat → Nat} {a ρ k m n : Nat} {V : Nat → Nat} {pl : Nat → Int64} {ge : Int32} {gs gn : Int64} {gf gt : Int32} {F p qp s : Nat} {pa my : Nat → Int32} {r : Nat → Int64} {b c d e : Nat} (tp : tPl ow h a ρ k m n V) (hρ : 10 < ρ) (zg : zG ow h pl (nI s) ge gs gn gf gt) (hP : gP pl (pmR r p (-1)) (rowL (-1) (rT r p)).length) (hd : sOK r F pa my) (hp : p < rP r) (pg : pgR ow h qp r p) (hrm : hU h + 8 * hN h + 5 * (20480 - m) ≤ 8000000) (hbcd : b ≤ 243 ∧ c ≤ 243 ∧ d ≤ 243) (he : s ≤ e ∧ e ≤ rT r p) (hk : k + 90 < 10240) (hq : ∀ h' ow' m' k' V', cFr [ρ] (5 * (m' - m)) ow h ow' h' → m ≤ m' → (k ≤ k' ∧ k' ≤ k + 81) → tPl ow' h' a ρ k' m' n V' → (∀ x, pSt V' k' x ↔ pSt V k x ∨ ∃ key, farS r p s e b c d key ∧ x = key * 64 + 2 ^ p) → Q none h') : Wp mX9_pileFars 3 71 0 [some (.ref a), some (.long (lN (kN 0 b c d))), none, some (.ref qp), some (.ref 115), some (.int (nI e)), some (.int (nI (2 ^ p))), none, none, none] [] h Q := by
  have hP6 := hd.w.1.2
  have hp6 : p < 6 := by omega
  have hT40 := (hd.w.2.1 p hp6).2
  have hrl := row1 (k := rT r p) hT40
  have hlen : (rowL (-1) (rT r p)).length ≤ 40 := by omega
  have hm0 := tPl_m tp
  have hloop : ∀  (t9 : Nat) (i : Nat) (k1 : Nat) (V1 : Nat → Nat) (m1 : Nat) (ow1 : Nat → Nat) (h1 : mH) (x8 : Option Value) (x9 : Option Value), (s ≤ i ∧ i ≤ e) → (k ≤ k1 ∧ k1 ≤ k + 1 + 2 * (i - s)) → (cFr [ρ] (5 * (m1 - m)) ow h ow1 h1) → (m ≤ m1 ∧ m1 ≤ 20480) → (tPl ow1 h1 a ρ k1 m1 n V1) → (zG ow1 h1 pl (nI s) ge gs gn gf gt) → (pgR ow1 h1 qp r p) → (∀ x, pSt V1 k1 x ↔ pSt V k x ∨ ∃ key, farS r p s i b c d key ∧ x = key * 64 + 2 ^ p) → (e < i + t9) → Wp mX9_pileFars 3 71 14 [some (.ref a), some (.long (lN (kN 0 b c d))), none, some (.ref qp), some (.ref 115), some (.int (nI e)), some (.int (nI (2 ^ p))), some (.int (nI i)), x8, x9] [] h1 Q := by
    intro t9
    induction t9 with
    | zero => intros; omega
    | succ t9 ih =>
      intro i k1 V1 m1 ow1 h1 x8 x9 hi hk1 hf1 hm1 tp1 zg1 pg1 hset hmz
      refine wp_iload dX9_pileFars_14 rfl ?_
      refine wp_iload dX9_pileFars_16 rfl ?_
      refine wp_icmp_geN dX9_pileFars_18 rfl rfl ⟨by omega, by omega⟩ (fun c2 => ?_) (fun c2 => ?_)
      · refine wp_vreturn dX9_pileFars_93 rfl ?_
        have ei9 : i = e := by omega
        subst ei9
        exact hq _ _ m1 k1 V1 (hf1.up (fun _ h => h) (by omega)) (by omega) (by omega) tp1 hset
      · have hi9 : i < rT r p := by omega
        have hs9 : s ≤ i := by omega
        refine wp_aload_n dX9_pileFars_21 rfl rfl ?_
        refine wp_iload dX9_pileFars_22 rfl ?_
        refine wp_iconst (v := (nI 0)) dX9_pileFars_24 (by decide +kernel) ?_
        refine wp_cV2 0 0 [some _, some _, some _] dX9_pileFars_25 tX6_itemAt rfl (by decide) nX6_itemAt vX6_itemAt lX9_89 ⟨by decide, by decide⟩ (Nat.le_of_ble_eq_true rfl) pg1.oo (Nat.le_of_ble_eq_true rfl) rfl ?_
        refine pX6_itemAt hd hp pg1 (by decide) (fun i1 hi1 ei1 v1 hv1 => ?_) (fun xn1 => absurd xn1 (by rw [ix_nI (by omega) (by omega)]; exact fun z => by cases z))
        have ei1 := (nI_eq (by omega) (by omega)).mp ei1
        subst ei1
        have hv1 : v1 = itm (asC r p i 0) := hv1.elim (fun z => z.2) (fun z => absurd z.1 (by decide))
        subst hv1
        have hc09 := asC_b (w := 0) hd.w hp hi9
        have ec09 : itm (asC r p i 0) = nI (asC r p i 0 - 1) := if_neg (by omega)
        intro _ _
        refine wp_istore (ls1 := [_, _, _, _, _, _, _, _, some _, _]) dX9_pileFars_28 (by decide) rfl ?_
        refine wp_aload dX9_pileFars_30 rfl ?_
        refine wp_iload dX9_pileFars_32 rfl ?_
        refine wp_iload dX9_pileFars_34 rfl ?_
        refine wp_cV2 0 0 [some _, some _, some _] dX9_pileFars_36 tX2_isNewAt rfl (by decide) nX2_isNewAt vX2_isNewAt lX9_107 ⟨by decide, by decide⟩ (Nat.le_of_ble_eq_true rfl) zg1.o (Nat.le_of_ble_eq_true rfl) rfl ?_
        refine new_as ec09 zg1 hP hlen (by omega) hs9 (by omega) (fun nw2 => ?_) (fun nw2 => ?_)
        · intro _ _
          refine wp_if_eq dX9_pileFars_39 (fun q => absurd q (by decide +kernel)) (fun _ => ?_)
          refine wp_aload_n dX9_pileFars_42 rfl rfl ?_
          refine wp_lload_n dX9_pileFars_43 rfl rfl ?_
          refine wp_iload dX9_pileFars_44 rfl ?_
          refine wp_cSN2 0 0 [some _, none, some _, none, none] dX9_pileFars_46 tX11_withFar sX11_withFar lX9_110 ⟨by decide, by decide⟩ (Nat.le_of_ble_eq_true rfl) (Nat.le_of_ble_eq_true rfl) rfl ?_
          refine pX11_withFar hc09.1 (by omega) ?_
          intro _ _
          refine wp_iload dX9_pileFars_49 rfl ?_
          refine wp_cV2 2 48 [some _, some _, none, some _] dX9_pileFars_51 tX9_pileUp rfl (by decide) nX9_pileUp vX9_pileUp lX9_103 ⟨by decide, by decide⟩ (Nat.le_of_ble_eq_true rfl) tp1.oo (Nat.le_of_ble_eq_true rfl) rfl ?_
          refine pX9_pileUp tp1 (by omega) (kN_lt (by omega) (by omega) (by omega) (by omega)) hp6 (by have := hf1.1.2.2; omega) (fun hh3 ow3 m3 f3 hm3 tp_3 => ?_)
          intro _ _
          have bm3 := tPl_m tp_3
          have zg1_3 := zg1.fr f3 (rnS (by omega) rn0)
          have pg1_3 := pg1.fr f3 (rnS (by omega) rn0)
          refine wp_aload_n dX9_pileFars_54 rfl rfl ?_
          refine wp_iload dX9_pileFars_55 rfl ?_
          refine wp_iconst (v := (nI 1)) dX9_pileFars_57 (by decide +kernel) ?_
          refine wp_cV2 0 0 [some _, some _, some _] dX9_pileFars_58 tX6_itemAt rfl (by decide) nX6_itemAt vX6_itemAt lX9_89 ⟨by decide, by decide⟩ (Nat.le_of_ble_eq_true rfl) pg1_3.oo (Nat.le_of_ble_eq_true rfl) rfl ?_
          refine pX6_itemAt hd hp pg1_3 (by decide) (fun i4 hi4 ei4 v4 hv4 => ?_) (fun xn4 => absurd xn4 (by rw [ix_nI (by omega) (by omega)]; exact fun z => by cases z))
          have ei4 := (nI_eq (by omega) (by omega)).mp ei4
          subst ei4
          have hv4 : v4 = itm (asC r p i 1) := hv4.elim (fun z => absurd z.1 (by decide)) (fun z => z.2)
          subst hv4
          have hc19 := asC_b (w := 1) hd.w hp hi9
          have ec19 : itm (asC r p i 1) = nI (asC r p i 1 - 1) := if_neg (by omega)
          intro _ _
          refine wp_istore (ls1 := [_, _, _, _, _, _, _, _, _, some _]) dX9_pileFars_61 (by decide) rfl ?_
          refine wp_aload dX9_pileFars_63 rfl ?_
          refine wp_iload dX9_pileFars_65 rfl ?_
          refine wp_iload dX9_pileFars_67 rfl ?_
          refine wp_cV2 0 0 [some _, some _, some _] dX9_pileFars_69 tX2_isNewAt rfl (by decide) nX2_isNewAt vX2_isNewAt lX9_107 ⟨by decide, by decide⟩ (Nat.le_of_ble_eq_true rfl) zg1_3.o (Nat.le_of_ble_eq_true rfl) rfl ?_
          refine new_as ec19 zg1_3 hP hlen (by omega) hs9 (by omega) (fun nw5 => ?_) (fun nw5 => ?_)
          · intro _ _
            refine wp_if_eq dX9_pileFars_72 (fun q => absurd q (by decide +kernel)) (fun _ => ?_)
            refine wp_aload_n dX9_pileFars_75 rfl rfl ?_
            refine wp_lload_n dX9_pileFars_76 rfl rfl ?_
            refine wp_iload dX9_pileFars_77 rfl ?_
            refine wp_cSN2 0 0 [some _, none, some _, none, none] dX9_pileFars_79 tX11_withFar sX11_withFar lX9_110 ⟨by decide, by decide⟩ (Nat.le_of_ble_eq_true rfl) (Nat.le_of_ble_eq_true rfl) rfl ?_
            refine pX11_withFar hc19.1 (by omega) ?_
            intro _ _
            refine wp_iload dX9_pileFars_82 rfl ?_
            refine wp_cV2 2 48 [some _, some _, none, some _] dX9_pileFars_84 tX9_pileUp rfl (by decide) nX9_pileUp vX9_pileUp lX9_103 ⟨by decide, by decide⟩ (Nat.le_of_ble_eq_true rfl) tp_3.oo (Nat.le_of_ble_eq_true rfl) rfl ?_
            refine pX9_pileUp tp_3 (by omega) (kN_lt (by omega) (by omega) (by omega) (by omega)) hp6 (by have := hf1.1.2.2; have := f3.1.2.2; omega) (fun hh6 ow6 m6 f6 hm6 tp_6 => ?_)
            intro _ _
            have bm6 := tPl_m tp_6
            have zg1_6 := zg1_3.fr f6 (rnS (by omega) rn0)
            have pg1_6 := pg1_3.fr f6 (rnS (by omega) rn0)
            refine wp_iinc1 (ls1 := [_, _, _, _, _, _, _, some _, _, _]) dX9_pileFars_87 rfl (by decide) rfl ?_
            refine wp_goto dX9_pileFars_90 ?_
            refine ih (i + 1) ((k1 + 1) + 1) _ _ _ _ _ _ (by omega) (by omega) (((hf1.tr f3).tr f6).up (fun _ h => h) (by omega)) (by omega) tp_6 zg1_6 pg1_6 (fun x9 => ?_) (by omega)
            rw [pSt_up, pSt_up, hset x9]
            constructor
            · rintro (((h | ⟨ky, h1, h2⟩) | h) | h)
              · exact Or.inl h
              · exact Or.inr ⟨ky, (farS_s hs9).mpr (Or.inl h1), h2⟩
              · exact Or.inr ⟨_, (farS_s hs9).mpr (Or.inr (Or.inl rfl)), h⟩
              · exact Or.inr ⟨_, (farS_s hs9).mpr (Or.inr (Or.inr rfl)), h⟩
            · rintro (h | ⟨ky, h1, h2⟩)
              · exact Or.inl (Or.inl (Or.inl h))
              · rcases (farS_s hs9).mp h1 with h1 | h1 | h1
                · exact Or.inl (Or.inl (Or.inr ⟨ky, h1, h2⟩))
                · subst h1; exact Or.inl (Or.inr h2)
                · subst h1; exact Or.inr h2
          · intro _ _
            refine wp_if_eq dX9_pileFars_72 (fun _ => ?_) (fun q => absurd q (by decide +kernel))
            refine wp_iinc1 (ls1 := [_, _, _, _, _, _, _, some _, _, _]) dX9_pileFars_87 rfl (by decide) rfl ?_
            refine wp_goto dX9_pileFars_90 ?_
            refine ih (i + 1) (k1 + 1) _ _ _ _ _ _ (by omega) (by omega) ((hf1.tr f3).up (fun _ h => h) (by omega)) (by omega) tp_3 zg1_3 pg1_3 (fun x9 => ?_) (by omega)
            rw [pSt_up, hset x9]
            constructor
            · rintro ((h | ⟨ky, h1, h2⟩) | h)
              · exact Or.inl h
              · exact Or.inr ⟨ky, (farS_s hs9).mpr (Or.inl h1), h2⟩
              · exact Or.inr ⟨_, (farS_s hs9).mpr (Or.inr (Or.inl rfl)), h⟩
            · rintro (h | ⟨ky, h1, h2⟩)
              · exact Or.inl (Or.inl h)
              · rcases (farS_s hs9).mp h1 with h1 | h1 | h1
                · exact Or.inl (Or.inr ⟨ky, h1, h2⟩)
                · subst h1; exact Or.inr h2
                · subst h1; exact Or.inl (Or.inr ⟨_, far_old hd.w hp hT40 hi9 (by decide) nw5, h2⟩)
        · intro _ _
          refine wp_if_eq dX9_pileFars_39 (fun _ => ?_) (fun q => absurd q (by decide +kernel))
          refine wp_aload_n dX9_pileFars_54 rfl rfl ?_
          refine wp_iload dX9_pileFars_55 rfl ?_
          refine wp_iconst (v := (nI 1)) dX9_pileFars_57 (by decide +kernel) ?_
          refine wp_cV2 0 0 [some _, some _, some _] dX9_pileFars_58 tX6_itemAt rfl (by decide) nX6_itemAt vX6_itemAt lX9_89 ⟨by decide, by decide⟩ (Nat.le_of_ble_eq_true rfl) pg1.oo (Nat.le_of_ble_eq_true rfl) rfl ?_
          refine pX6_itemAt hd hp pg1 (by decide) (fun i7 hi7 ei7 v7 hv7 => ?_) (fun xn7 => absurd xn7 (by rw [ix_nI (by omega) (by omega)]; exact fun z => by cases z))
          have ei7 := (nI_eq (by omega) (by omega)).mp ei7
          subst ei7
          have hv7 : v7 = itm (asC r p i 1) := hv7.elim (fun z => absurd z.1 (by decide)) (fun z => z.2)
          subst hv7
          have hc19 := asC_b (w := 1) hd.w hp hi9
          have ec19 : itm (asC r p i 1) = nI (asC r p i 1 - 1) := if_neg (by omega)
          intro _ _
          refine wp_istore (ls1 := [_, _, _, _, _, _, _, _, _, some _]) dX9_pileFars_61 (by decide) rfl ?_
          refine wp_aload dX9_pileFars_63 rfl ?_
          refine wp_iload dX9_pileFars_65 rfl ?_
          refine wp_iload dX9_pileFars_67 rfl ?_
          refine wp_cV2 0 0 [some _, some _, some _] dX9_pileFars_69 tX2_isNewAt rfl (by decide) nX2_isNewAt vX2_isNewAt lX9_107 ⟨by decide, by decide⟩ (Nat.le_of_ble_eq_true rfl) zg1.o (Nat.le_of_ble_eq_true rfl) rfl ?_
          refine new_as ec19 zg1 hP hlen (by omega) hs9 (by omega) (fun nw8 => ?_) (fun nw8 => ?_)
          · intro _ _
            refine wp_if_eq dX9_pileFars_72 (fun q => absurd q (by decide +kernel)) (fun _ => ?_)
            refine wp_aload_n dX9_pileFars_75 rfl rfl ?_
            refine wp_lload_n dX9_pileFars_76 rfl rfl ?_
            refine wp_iload dX9_pileFars_77 rfl ?_
            refine wp_cSN2 0 0 [some _, none, some _, none, none] dX9_pileFars_79 tX11_withFar sX11_withFar lX9_110 ⟨by decide, by decide⟩ (Nat.le_of_ble_eq_true rfl) (Nat.le_of_ble_eq_true rfl) rfl ?_
            refine pX11_withFar hc19.1 (by omega) ?_
            intro _ _
            refine wp_iload dX9_pileFars_82 rfl ?_
            refine wp_cV2 2 48 [some _, some _, none, some _] dX9_pileFars_84 tX9_pileUp rfl (by decide) nX9_pileUp vX9_pileUp lX9_103 ⟨by decide, by decide⟩ (Nat.le_of_ble_eq_true rfl) tp1.oo (Nat.le_of_ble_eq_true rfl) rfl ?_
            refine pX9_pileUp tp1 (by omega) (kN_lt (by omega) (by omega) (by omega) (by omega)) hp6 (by have := hf1.1.2.2; omega) (fun hh9 ow9 m9 f9 hm9 tp_9 => ?_)
            intro _ _
            have bm9 := tPl_m tp_9
            have zg1_9 := zg1.fr f9 (rnS (by omega) rn0)
            have pg1_9 := pg1.fr f9 (rnS (by omega) rn0)
            refine wp_iinc1 (ls1 := [_, _, _, _, _, _, _, some _, _, _]) dX9_pileFars_87 rfl (by decide) rfl ?_
            refine wp_goto dX9_pileFars_90 ?_
            refine ih (i + 1) (k1 + 1) _ _ _ _ _ _ (by omega) (by omega) ((hf1.tr f9).up (fun _ h => h) (by omega)) (by omega) tp_9 zg1_9 pg1_9 (fun x9 => ?_) (by omega)
            rw [pSt_up, hset x9]
            constructor
            · rintro ((h | ⟨ky, h1, h2⟩) | h)
              · exact Or.inl h
              · exact Or.inr ⟨ky, (farS_s hs9).mpr (Or.inl h1), h2⟩
              · exact Or.inr ⟨_, (farS_s hs9).mpr (Or.inr (Or.inr rfl)), h⟩
            · rintro (h | ⟨ky, h1, h2⟩)
              · exact Or.inl (Or.inl h)
              · rcases (farS_s hs9).mp h1 with h1 | h1 | h1
                · exact Or.inl (Or.inr ⟨ky, h1, h2⟩)
                · subst h1; exact Or.inl (Or.inr ⟨_, far_old hd.w hp hT40 hi9 (by decide) nw2, h2⟩)
                · subst h1; exact Or.inr h2
          · intro _ _
            refine wp_if_eq dX9_pileFars_72 (fun _ => ?_) (fun q => absurd q (by decide +kernel))
            refine wp_iinc1 (ls1 := [_, _, _, _, _, _, _, some _, _, _]) dX9_pileFars_87 rfl (by decide) rfl ?_
            refine wp_goto dX9_pileFars_90 ?_
            refine ih (i + 1) k1 _ _ _ _ _ _ (by omega) (by omega) (hf1.up (fun _ h => h) (by omega)) (by omega) tp1 zg1 pg1 (fun x9 => ?_) (by omega)
            rw [hset x9]
            constructor
            · rintro (h | ⟨ky, h1, h2⟩)
              · exact Or.inl h
              · exact Or.inr ⟨ky, (farS_s hs9).mpr (Or.inl h1), h2⟩
            · rintro (h | ⟨ky, h1, h2⟩)
              · exact Or.inl h
              · rcases (farS_s hs9).mp h1 with h1 | h1 | h1
                · exact Or.inr ⟨ky, h1, h2⟩
                · subst h1; exact Or.inr ⟨_, far_old hd.w hp hT40 hi9 (by decide) nw2, h2⟩
                · subst h1; exact Or.inr ⟨_, far_old hd.w hp hT40 hi9 (by decide) nw8, h2⟩
  refine wp_aload_n dX9_pileFars_0 rfl rfl ?_
  refine wp_lload_n dX9_pileFars_1 rfl rfl ?_
  refine wp_iload dX9_pileFars_2 rfl ?_
  refine wp_cV2 2 48 [some _, some _, none, some _] dX9_pileFars_4 tX9_pileUp rfl (by decide) nX9_pileUp vX9_pileUp lX9_103 ⟨by decide, by decide⟩ (Nat.le_of_ble_eq_true rfl) tp.oo (Nat.le_of_ble_eq_true rfl) rfl ?_
  refine pX9_pileUp tp (by omega) (kN_lt (by decide) (by omega) (by omega) (by omega)) hp6 (by omega) (fun hh1 ow1 m1 f1 hm1 tp_1 => ?_)
  intro _ _
  have bm1 := tPl_m tp_1
  have zg_1 := zg.fr f1 (rnS (by omega) rn0)
  have pg_1 := pg.fr f1 (rnS (by omega) rn0)
  refine wp_aload dX9_pileFars_7 rfl ?_
  refine wp_getIV dX9_pileFars_9 lX9_86 rfl zg_1.o zg_1.f1 ?_
  refine wp_istore (ls1 := [_, _, _, _, _, _, _, some _, _, _]) dX9_pileFars_12 (by decide) rfl ?_
  refine hloop (e + 1) s (k + 1) _ _ _ _ _ _ (by omega) (by omega) f1 (by omega) tp_1 zg_1 pg_1 (fun x9 => ?_) (by omega)
  rw [pSt_up]
  constructor
  · rintro (h | h)
    · exact Or.inl h
    · exact Or.inr ⟨_, Or.inl rfl, h⟩
  · rintro (h | ⟨ky, h1 | ⟨j, h1, h3, _⟩, h2⟩)
    · exact Or.inl h
    · subst h1; exact Or.inr h2
    · omega
