/-! ===== a row is cut ===== -/
/-- a field and its parents -/
def chn (pa : Nat → Int32) (F f n : Nat) (C : Nat → Nat) : Prop := (0 < n → C 0 = f) ∧ (∀ j, j < n → C j < F) ∧ ∀ j, j + 1 < n → pa (C j) = nI (C (j + 1)) ∧ C (j + 1) < C j
theorem chn_none {r : Nat → Int64} {F : Nat} {pa my : Nat → Int32} {P : Int32 → Nat → Bool} {len f n : Nat} {C : Nat → Nat} (hd : sOK r F pa my) (q : chn pa F f n C) : ∀ i, i < n → crX r pa my P len (C i) = none → crX r pa my P len f = none
  | 0, h, e => by
    rw [← q.1 h]
    exact e
  | i + 1, h, e => by
    refine chn_none hd q i (by omega) ?_
    have h1 := q.2.2 i h
    rw [crX_par hd (q.2.1 i (by omega)) h1.2 h1.1, e]
set_option maxRecDepth 20000 in
theorem row_chain {h : mH} {Q : Option Value → mH → Prop} {r : Nat → Int64} {F : Nat} {pa my : Nat → Int32} {f : Nat} (hc : mC h r F pa my) (hd : sOK r F pa my) (hf : f < F) (K9 : ∀ (m : Nat) (C : Nat → Nat) h1, mFr (mP [] [182]) h h1 → mC h1 r F pa my → ∀ {U : Nat → Int32}, hI h1 182 = U → (∀ j, j < m → U j = nI (C j)) → chn pa F f m C → 0 < m → m ≤ 4 → pa (C (m - 1)) = -1 → Wp mX12_cutsRow 6 151 29 [some (.ref 153), some (.int (nI f)), some (.int (nI m)), some (.int (-1)), none, none] [] h1 Q) : Wp mX12_cutsRow 6 151 4 [some (.ref 153), some (.int (nI f)), some (.int (nI 0)), some (.int (nI f)), none, none] [] h Q := by
  have hF4 := hd.f4
  have hloop : ∀  (t9 : Nat) (m : Nat) (g : Nat) (h1 : mH) (U : Nat → Int32) (C : Nat → Nat), (mC h1 r F pa my) → (mFr (mP [] [182]) h h1) → (hI h1 182 = U) → (chn pa F f m C) → (∀ j, j < m → U j = nI (C j)) → (g < F) → (m + g ≤ 3) → ((m = 0 ∧ g = f) ∨ (0 < m ∧ pa (C (m - 1)) = nI g ∧ g < C (m - 1))) → (3 < m + t9) → Wp mX12_cutsRow 6 151 4 [some (.ref 153), some (.int (nI f)), some (.int (nI m)), some (.int (nI g)), none, none] [] h1 Q := by
    intro t9
    induction t9 with
    | zero => intros; omega
    | succ t9 ih =>
      intro m g h1 U C hc1 hf1 e1 hC hU hg hmg hcur hmz
      refine wp_iload_n dX12_cutsRow_4 rfl rfl ?_
      refine wp_iconst (v := (-1)) dX12_cutsRow_5 (by decide +kernel) ?_
      refine wp_icmp_eq dX12_cutsRow_6 (fun q => absurd q (nI_ne_m1 (by omega))) (fun _ => ?_)
      refine wp_aload_n dX12_cutsRow_9 rfl rfl ?_
      refine wp_getR dX12_cutsRow_10 lX12_104 rfl (mO hc1.1) (mR_chain hc1.1) ?_
      refine wp_iload_n dX12_cutsRow_13 rfl rfl ?_
      refine wp_iload_n dX12_cutsRow_14 rfl rfl ?_
      refine wp_iastN dX12_cutsRow_15 (mA_chain hc1.1) rfl ⟨by omega, by decide⟩ ?_
      refine sealAI e1 (fun hh1 f1 e1 => ?_)
      have mc1 := hc1.fr f1 (by decide) (by decide) (by decide) (by decide) (by decide)
      refine wp_iinc1 (ls1 := [_, _, some _, _, _, _]) dX12_cutsRow_16 rfl (by decide) rfl ?_
      refine wp_aload_n dX12_cutsRow_19 rfl rfl ?_
      refine wp_getR dX12_cutsRow_20 lX12_33 rfl (mO mc1.1) (mR_parent mc1.1) ?_
      refine wp_iload_n dX12_cutsRow_23 rfl rfl ?_
      refine wp_ialdV dX12_cutsRow_24 (mA_parent mc1.1) rfl ⟨by omega, by decide⟩ (congrFun mc1.2.2.2.1 g) ?_
      rcases hd.par g hg with ep2 | ⟨g2, hg2, ep2, mg2⟩
      · rw [ep2]
        refine wp_istore_n (ls1 := [_, _, _, some _, _, _]) dX12_cutsRow_25 rfl (by decide) rfl ?_
        refine wp_goto dX12_cutsRow_26 ?_
        have hch : chn pa F f (m + 1) (fun j => if j = m then g else C j) := by
          refine ⟨fun _ => ?_, fun j hj => ?_, fun j hj => ?_⟩
          · show (if 0 = m then g else C 0) = f
            rcases hcur with ⟨z1, z2⟩ | ⟨z1, z2, z3⟩
            · rw [if_pos z1.symm]; exact z2
            · rw [if_neg (by omega)]; exact hC.1 (by omega)
          · show (if j = m then g else C j) < F
            by_cases e9 : j = m
            · rw [if_pos e9]; exact hg
            · rw [if_neg e9]; exact hC.2.1 j (by omega)
          · show pa (if j = m then g else C j) = nI (if j + 1 = m then g else C (j + 1)) ∧ (if j + 1 = m then g else C (j + 1)) < (if j = m then g else C j)
            rw [if_neg (show ¬ j = m by omega)]
            by_cases e9 : j + 1 = m
            · rw [if_pos e9]
              rcases hcur with ⟨z1, z2⟩ | ⟨z1, z2, z3⟩
              · omega
              · rw [show j = m - 1 by omega]; exact ⟨z2, z3⟩
            · rw [if_neg e9]; exact hC.2.2 j (by omega)
        have hrw : ∀ j, j < m + 1 → upI U m (nI g) j = nI ((fun j => if j = m then g else C j) j) := by
          intro j hj
          by_cases e9 : j = m
          · subst e9; rw [upI_at]; simp only [if_true]
          · rw [upI_ne e9]; simp only [if_neg e9]; exact hU j (by omega)
        refine wp_iload_n dX12_cutsRow_4 rfl rfl ?_
        refine wp_iconst (v := (-1)) dX12_cutsRow_5 (by decide +kernel) ?_
        refine wp_icmp_eq dX12_cutsRow_6 (fun _ => ?_) (fun q => absurd (by decide +kernel) q)
        refine K9 (m + 1) (fun j => if j = m then g else C j) _ ((hf1.up (by decide) (by decide)).tr (f1.up (by decide) (by decide))) mc1 e1 hrw hch (by omega) (by omega) ?_
        show pa (if m + 1 - 1 = m then g else C (m + 1 - 1)) = _
        rw [if_pos (by omega)]
        exact ep2
      · rw [ep2]
        refine wp_istore_n (ls1 := [_, _, _, some _, _, _]) dX12_cutsRow_25 rfl (by decide) rfl ?_
        refine wp_goto dX12_cutsRow_26 ?_
        have hch : chn pa F f (m + 1) (fun j => if j = m then g else C j) := by
          refine ⟨fun _ => ?_, fun j hj => ?_, fun j hj => ?_⟩
          · show (if 0 = m then g else C 0) = f
            rcases hcur with ⟨z1, z2⟩ | ⟨z1, z2, z3⟩
            · rw [if_pos z1.symm]; exact z2
            · rw [if_neg (by omega)]; exact hC.1 (by omega)
          · show (if j = m then g else C j) < F
            by_cases e9 : j = m
            · rw [if_pos e9]; exact hg
            · rw [if_neg e9]; exact hC.2.1 j (by omega)
          · show pa (if j = m then g else C j) = nI (if j + 1 = m then g else C (j + 1)) ∧ (if j + 1 = m then g else C (j + 1)) < (if j = m then g else C j)
            rw [if_neg (show ¬ j = m by omega)]
            by_cases e9 : j + 1 = m
            · rw [if_pos e9]
              rcases hcur with ⟨z1, z2⟩ | ⟨z1, z2, z3⟩
              · omega
              · rw [show j = m - 1 by omega]; exact ⟨z2, z3⟩
            · rw [if_neg e9]; exact hC.2.2 j (by omega)
        have hrw : ∀ j, j < m + 1 → upI U m (nI g) j = nI ((fun j => if j = m then g else C j) j) := by
          intro j hj
          by_cases e9 : j = m
          · subst e9; rw [upI_at]; simp only [if_true]
          · rw [upI_ne e9]; simp only [if_neg e9]; exact hU j (by omega)
        refine ih (m + 1) g2 _ _ (fun j => if j = m then g else C j) mc1 ((hf1.up (by decide) (by decide)).tr (f1.up (by decide) (by decide))) e1 hch hrw (by omega) (by omega) (Or.inr ⟨by omega, ?_, ?_⟩) (by omega)
        · show pa (if m + 1 - 1 = m then g else C (m + 1 - 1)) = _
          rw [if_pos (by omega)]; exact ep2
        · show _ < (if m + 1 - 1 = m then g else C (m + 1 - 1))
          rw [if_pos (by omega)]; exact hg2
  exact hloop 4 0 f h _ (fun _ => 0) hc mFr.rf rfl ⟨fun z => by omega, fun j hj => by omega, fun j hj => by omega⟩ (fun j hj => by omega) hf (by omega) (Or.inl ⟨rfl, rfl⟩) (by omega)
theorem rowL_le {but : Int32} {k : Nat} : (rowL but k).length ≤ k := by
  unfold rowL
  exact Nat.le_trans (List.length_filter_le _ _) (by rw [List.length_range]; exact Nat.le_refl _)
set_option maxRecDepth 20000 in
theorem row_down {h : mH} {Q : Option Value → mH → Prop} {r : Nat → Int64} {F : Nat} {pa my : Nat → Int32} {f p m : Nat} {but : Int32} {C : Nat → Nat} {U : Nat → Int32} (hd : sOK r F pa my) (hp : p < rP r) (hC : chn pa F f m C) (hm4 : m ≤ 4) (hU : ∀ j, j < m → U j = nI (C j)) (hq : ∀ h', mFr (mP [35, 50] [169, 170]) h h' → cutsOK h' (cuL (crX r pa my (pmR r p but) (rowL but (rT r p)).length f)) → hI h' 153 50 = cuB (crX r pa my (pmR r p but) (rowL but (rT r p)).length f) → Q none h') : ∀ (e a b : Nat) (h1 : mH), e ≤ m → mC h1 r F pa my → rowX r h1 p but → mFr (mP [35, 50] [169, 170]) h h1 → hI h1 182 = U → (a ≤ b ∧ b ≤ (rowL but (rT r p)).length) → (∀ i, e = i + 1 → crX r pa my (pmR r p but) (rowL but (rT r p)).length (C i) = cbX r my (C i) (pmR r p but) a b) → (e = 0 → cutsOK h1 (cuL (crX r pa my (pmR r p but) (rowL but (rT r p)).length f)) ∧ hI h1 153 50 = cuB (crX r pa my (pmR r p but) (rowL but (rT r p)).length f)) → Wp mX12_cutsRow 6 151 42 [some (.ref 153), some (.int (nI f)), some (.int (nI m)), some (.int (nI a)), some (.int (nI b)), some (.int (itm e))] [] h1 Q := by
  have hF4 := hd.f4
  have hP6 := hd.w.1.2
  have hT40 := (hd.w.2.1 p (by omega)).2
  have hlen : (rowL but (rT r p)).length ≤ rT r p := rowL_le
  intro e
  induction e with
  | zero =>
    intro a b h1 _ hc1 rx1 hf1 e1 hab hreg hfin
    show Wp mX12_cutsRow 6 151 42 [some (.ref 153), some (.int (nI f)), some (.int (nI m)), some (.int (nI a)), some (.int (nI b)), some (.int (-1))] [] h1 Q
    refine wp_iload dX12_cutsRow_42 rfl ?_
    refine wp_if_lt dX12_cutsRow_44 (fun _ => ?_) (fun q => absurd q (by decide +kernel))
    refine wp_vreturn dX12_cutsRow_90 rfl ?_
    exact hq _ hf1 (hfin rfl).1 (hfin rfl).2
  | succ i ih =>
    intro a b h1 he hc1 rx1 hf1 e1 hab hreg hfin
    rw [itm_s]
    refine wp_iload dX12_cutsRow_42 rfl ?_
    refine wp_if_lt dX12_cutsRow_44 (fun q9 => absurd q9 (nI_pos (by omega))) (fun _ => ?_)
    refine wp_aload_n dX12_cutsRow_47 rfl rfl ?_
    refine wp_aload_n dX12_cutsRow_48 rfl rfl ?_
    refine wp_getR dX12_cutsRow_49 lX12_104 rfl (mO hc1.1) (mR_chain hc1.1) ?_
    refine wp_iload dX12_cutsRow_52 rfl ?_
    refine wp_ialdV dX12_cutsRow_54 (mA_chain hc1.1) rfl ⟨by omega, by decide⟩ ((congrFun e1 i).trans (hU i (by omega))) ?_
    refine wp_iload_n dX12_cutsRow_55 rfl rfl ?_
    refine wp_iload dX12_cutsRow_56 rfl ?_
    refine wp_cV3 5 127 [some _, some _, some _, some _, none] dX12_cutsRow_58 tX12_cutsBy rfl (by decide) nX12_cutsBy vX12_cutsBy lX12_478 ⟨by decide, by decide⟩ (Nat.le_of_ble_eq_true rfl) (mO hc1.1) (Nat.le_of_ble_eq_true rfl) rfl ?_
    refine pX12_cutsBy hc1 hd (hC.2.1 i (by omega)) hp rx1 ⟨by omega, by omega⟩ (fun hh1 f1 k1 b1 => ?_)
    intro _ _
    have mc1 := hc1.fr f1 (by decide) (by decide) (by decide) (by decide) (by decide)
    have rx1 := rx1.fr f1 (by decide) (by decide)
    have eI182_1 := (f1.Ir (by decide) (by decide)).trans e1
    have hcr := hreg i rfl
    rw [← hcr] at k1 b1
    refine wp_aload_n dX12_cutsRow_61 rfl rfl ?_
    refine wp_getIV dX12_cutsRow_62 lX12_337 rfl (mO mc1.1) k1.1 ?_
    refine wp_if_neN dX12_cutsRow_65 rfl (by have := k1.2.1; omega) (fun c2 => ?_) (fun c2 => ?_)
    · have hl0 : 0 < (cuL (crX r pa my (pmR r p but) (rowL but (rT r p)).length (C i))).length := by assumption
      refine wp_aload_n dX12_cutsRow_69 rfl rfl ?_
      refine wp_getR dX12_cutsRow_70 lX12_64 rfl (mO mc1.1) (mR_cutFrom mc1.1) ?_
      refine wp_iconst (v := (nI 0)) dX12_cutsRow_73 (by decide +kernel) ?_
      refine wp_ialdV dX12_cutsRow_74 (mA_cutFrom mc1.1) rfl ⟨by omega, by decide⟩ (k1.2.2 0 (by omega)).1 ?_
      refine wp_istore_n (ls1 := [_, _, _, some _, _, _]) dX12_cutsRow_75 rfl (by decide) rfl ?_
      refine wp_aload_n dX12_cutsRow_76 rfl rfl ?_
      refine wp_getR dX12_cutsRow_77 lX12_67 rfl (mO mc1.1) (mR_cutTo mc1.1) ?_
      refine wp_iconst (v := (nI 0)) dX12_cutsRow_80 (by decide +kernel) ?_
      refine wp_ialdV dX12_cutsRow_81 (mA_cutTo mc1.1) rfl ⟨by omega, by decide⟩ (k1.2.2 0 (by omega)).2.1 ?_
      refine wp_istore (ls1 := [_, _, _, _, some _, _]) dX12_cutsRow_82 (by decide) rfl ?_
      refine wp_iinc (ls1 := [_, _, _, _, _, some _]) dX12_cutsRow_84 rfl rfl (by decide) rfl ?_
      refine wp_goto dX12_cutsRow_87 ?_
      rw [show Int32.ofInt (-1) = (-1 : Int32) by decide +kernel, itm_m]
      obtain ⟨x9, hx9⟩ : ∃ x, crX r pa my (pmR r p but) (rowL but (rT r p)).length (C i) = some x := by
        cases c9 : crX r pa my (pmR r p but) (rowL but (rT r p)).length (C i) with
        | none => rw [c9] at hl0; exact absurd hl0 (Nat.lt_irrefl 0)
        | some x => exact ⟨x, rfl⟩
      have ok9 := crX_ok hd 4 (C i) (hC.2.1 i (by omega)) (by have := hC.2.1 i (by omega); omega) x9 hx9
      rw [hx9] at k1 b1 ⊢
      refine ih _ _ _ (by omega) mc1 rx1 ((hf1.up (by decide) (by decide)).tr (f1.up (by decide) (by decide))) eI182_1 ⟨Nat.le_of_lt ok9.2.2.1, ok9.2.2.2⟩ ?_ ?_
      · intro j hj
        have h1 := hC.2.2 j (by omega)
        rw [crX_par hd (hC.2.1 j (by omega)) h1.2 h1.1, show j + 1 = i by omega, hx9]
        rfl
      · intro hi0
        subst hi0
        rw [hC.1 (by omega)] at hx9
        rw [hx9]
        exact ⟨k1, b1⟩
    · refine wp_vreturn dX12_cutsRow_68 rfl ?_
      have hn := (cuL_nil (crX r pa my (pmR r p but) (rowL but (rT r p)).length (C i)) (fun y hy => (crX_ok hd 4 (C i) (hC.2.1 i (by omega)) (by have := hC.2.1 i (by omega); omega) y hy).2.1)).mp (List.length_eq_zero_iff.mp (by assumption))
      have hn2 := chn_none hd hC i (by omega) hn
      rw [hn] at k1 b1
      refine hq _ ((hf1.up (by decide) (by decide)).tr (f1.up (by decide) (by decide))) ?_ ?_
      · rw [hn2]; exact k1
      · rw [hn2]; exact b1
set_option maxRecDepth 20000 in
theorem pX12_cutsRow {h : mH} {Q : Option Value → mH → Prop} {r : Nat → Int64} {F : Nat} {pa my : Nat → Int32} {f p : Nat} {but : Int32} (hc : mC h r F pa my) (hd : sOK r F pa my) (hf : f < F) (hp : p < rP r) (rx : rowX r h p but) (hq : ∀ h', mFr (mP [35, 50] [169, 170, 182]) h h' → cutsOK h' (cuL (crX r pa my (pmR r p but) (rowL but (rT r p)).length f)) → hI h' 153 50 = cuB (crX r pa my (pmR r p but) (rowL but (rT r p)).length f) → Q none h') : Wp mX12_cutsRow 6 151 0 [some (.ref 153), some (.int (nI f)), none, none, none, none] [] h Q := by
  have hF4 := hd.f4
  have hP6 := hd.w.1.2
  refine wp_iconst (v := (nI 0)) dX12_cutsRow_0 (by decide +kernel) ?_
  refine wp_istore_n (ls1 := [_, _, some _, _, _, _]) dX12_cutsRow_1 rfl (by decide) rfl ?_
  refine wp_iload_n dX12_cutsRow_2 rfl rfl ?_
  refine wp_istore_n (ls1 := [_, _, _, some _, _, _]) dX12_cutsRow_3 rfl (by decide) rfl ?_
  refine row_chain hc hd hf (fun m1 C1 hh1 f1 mc1 U1 eU1 hU1 ch1 m01 m41 top1 => ?_)
  have rx1 := rx.fr f1 (by decide) (by decide)
  refine wp_iconst (v := (nI 0)) dX12_cutsRow_29 (by decide +kernel) ?_
  refine wp_istore_n (ls1 := [_, _, _, some _, _, _]) dX12_cutsRow_30 rfl (by decide) rfl ?_
  refine wp_aload_n dX12_cutsRow_31 rfl rfl ?_
  refine wp_getIV dX12_cutsRow_32 lX12_324 rfl (mO mc1.1) rx1.1 ?_
  refine wp_istore (ls1 := [_, _, _, _, some _, _]) dX12_cutsRow_35 (by decide) rfl ?_
  refine wp_iload_n dX12_cutsRow_37 rfl rfl ?_
  refine wp_iconst (v := (nI 1)) dX12_cutsRow_38 (by decide +kernel) ?_
  refine wp_isub dX12_cutsRow_39 ?_
  refine wp_istore (ls1 := [_, _, _, _, _, some _]) dX12_cutsRow_40 (by decide) rfl ?_
  rw [pk_sub (show 1 ≤ m1 by omega), show nI (m1 - 1) = itm m1 from (if_neg (by omega)).symm]
  refine row_down hd hp ch1 m41 hU1 (fun hh f9 k9 b9 => hq _ ((f1.up (by decide) (by decide)).tr (f9.up (by decide) (by decide))) k9 b9) m1 0 (rowL but (rT r p)).length _ (Nat.le_refl _) mc1 rx1 mFr.rf eU1 ⟨Nat.zero_le _, Nat.le_refl _⟩ (fun i hi => ?_) (fun z => by omega)
  rw [show m1 - 1 = i by omega] at top1
  exact crX_top top1
/-- what a page is cut to in a field -/
abbrev cuX (r : Nat → Int64) (pa my : Nat → Int32) (p : Nat) (but : Int32) (f : Nat) : Option (Nat × List (Nat × Nat)) := crX r pa my (pmR r p but) (rowL but (rT r p)).length f
theorem cuX_ok {r : Nat → Int64} {F : Nat} {pa my : Nat → Int32} {p f : Nat} {but : Int32} (hd : sOK r F pa my) (hf : f < F) (x : Nat × List (Nat × Nat)) (h : cuX r pa my p but f = some x) : (∀ q ∈ x.2, q.1 < q.2 ∧ q.2 ≤ (rowL but (rT r p)).length) ∧ x.2 ≠ [] := by
  have := crX_ok hd 4 f hf (by have := hd.f4; omega) x h
  exact ⟨this.1, this.2.1⟩
set_option maxRecDepth 20000 in
theorem pX12_cutsPage {h : mH} {Q : Option Value → mH → Prop} {r : Nat → Int64} {F : Nat} {pa my : Nat → Int32} {p f : Nat} (hc : mC h r F pa my) (hd : sOK r F pa my) (hf : f < F) (hp : p < rP r) (hq : ∀ h', mFr (mP [24, 32, 35, 50] [163, 164, 165, 167, 168, 169, 170, 182]) h h' → numX r h' → rowX r h' p (-1) → cutsOK h' (cuL (cuX r pa my p (-1) f)) → hI h' 153 50 = cuB (cuX r pa my p (-1) f) → Q none h') : Wp mX12_cutsPage 7 176 0 [some (.ref 153), some (.int (nI p)), some (.int (nI f))] [] h Q := by
  have hF4 := hd.f4
  have hP6 := hd.w.1.2
  refine wp_aload_n dX12_cutsPage_0 rfl rfl ?_
  refine wp_cV0 3 64 [some _, none, none, none, none] dX12_cutsPage_1 tX12_laysNumbers rfl (by decide) nX12_laysNumbers vX12_laysNumbers lX12_289 ⟨by decide, by decide⟩ (Nat.le_of_ble_eq_true rfl) (mO hc.1) (Nat.le_of_ble_eq_true rfl) rfl ?_
  refine pX12_laysNumbers' hc hd (fun hh1 f1 nx1 => ?_)
  intro _ _
  have mc1 := hc.fr f1 (by decide) (by decide) (by decide) (by decide) (by decide)
  refine wp_aload_n dX12_cutsPage_4 rfl rfl ?_
  refine wp_iload_n dX12_cutsPage_5 rfl rfl ?_
  refine wp_iconst (v := (-1)) dX12_cutsPage_6 (by decide +kernel) ?_
  refine wp_cV2 1 21 [some _, some _, some _, none] dX12_cutsPage_7 tX12_laysRow rfl (by decide) nX12_laysRow vX12_laysRow lX12_344 ⟨by decide, by decide⟩ (Nat.le_of_ble_eq_true rfl) (mO mc1.1) (Nat.le_of_ble_eq_true rfl) rfl ?_
  refine pX12_laysRow' mc1 hd nx1 (by omega) (fun hh2 f2 rx2 => ?_)
  intro _ _
  have mc2 := mc1.fr f2 (by decide) (by decide) (by decide) (by decide) (by decide)
  have nx2 := nx1.fr f2 (by decide) (by decide)
  refine wp_aload_n dX12_cutsPage_10 rfl rfl ?_
  refine wp_iload_n dX12_cutsPage_11 rfl rfl ?_
  refine wp_cV1 6 151 [some _, some _, none, none, none, none] dX12_cutsPage_12 tX12_cutsRow rfl (by decide) nX12_cutsRow vX12_cutsRow lX12_482 ⟨by decide, by decide⟩ (Nat.le_of_ble_eq_true rfl) (mO mc2.1) (Nat.le_of_ble_eq_true rfl) rfl ?_
  refine pX12_cutsRow mc2 hd (by omega) (by omega) rx2 (fun hh3 f3 k3 b3 => ?_)
  intro _ _
  have mc3 := mc2.fr f3 (by decide) (by decide) (by decide) (by decide) (by decide)
  have nx3 := nx2.fr f3 (by decide) (by decide)
  have rx3 := rx2.fr f3 (by decide) (by decide)
  refine wp_aload_n dX12_cutsPage_15 rfl rfl ?_
  refine wp_getIV dX12_cutsPage_16 lX12_337 rfl (mO mc3.1) k3.1 ?_
  refine wp_if_neN dX12_cutsPage_19 rfl (by have := k3.2.1; omega) (fun c1 => ?_) (fun c1 => ?_)
  · refine wp_vreturn dX12_cutsPage_27 rfl ?_
    exact hq _ (((f1.up (by decide) (by decide)).tr (f2.up (by decide) (by decide))).tr (f3.up (by decide) (by decide))) nx3 rx3 k3 b3
  · refine wp_aload_n dX12_cutsPage_22 rfl rfl ?_
    refine wp_iconst (v := (-1)) dX12_cutsPage_23 (by decide +kernel) ?_
    refine wp_putI dX12_cutsPage_24 lX12_475 rfl (Or.inl rfl) (mO mc3.1) rfl rfl ?_
    refine sealI (fun hh4 f4 e4 => ?_)
    have mc4 := mc3.fr f4 (by decide) (by decide) (by decide) (by decide) (by decide)
    have nx4 := nx3.fr f4 (by decide) (by decide)
    have rx4 := rx3.fr f4 (by decide) (by decide)
    have k4 := k3.fr f4 (by decide) (by decide)
    refine wp_vreturn dX12_cutsPage_27 rfl ?_
    have hn := (cuL_nil (cuX r pa my p (-1) f) (fun y hy => (cuX_ok hd hf y hy).2)).mp (List.length_eq_zero_iff.mp (by assumption))
    exact hq _ ((((f1.up (by decide) (by decide)).tr (f2.up (by decide) (by decide))).tr (f3.up (by decide) (by decide))).tr (f4.up (by decide) (by decide))) nx4 rx4 k4 (by rw [hn]; exact e4)
def cnC (r : Nat → Int64) (F : Nat) (x y : Int32) : Option (Nat × Nat) := match ix x (rP r), ix y F with
  | some p, some f => if r (655 + 70 * f) = 1 then some (p, f) else none
  | _, _ => none
set_option maxRecDepth 20000 in
theorem pX12_canCut {h : mH} {Q : Option Value → mH → Prop} {r : Nat → Int64} {F : Nat} {pa my : Nat → Int32} {x y : Int32} (hc : mC h r F pa my) (hd : sOK r F pa my) (ht : ∀ p f, cnC r F x y = some (p, f) → x = nI p → y = nI f → p < rP r → f < F → r (655 + 70 * f) = 1 → Q (some (.int (nI 1))) h) (hf : cnC r F x y = none → Q (some (.int (nI 0))) h) : Wp mX12_canCut 2 43 0 [some (.ref 153), some (.int x), some (.int y)] [] h Q := by
  have hF4 := hd.f4
  have hP6 := hd.w.1.2
  refine wp_aload_n dX12_canCut_0 rfl rfl ?_
  refine wp_iload_n dX12_canCut_1 rfl rfl ?_
  refine wp_cV1 1 22 [some _, some _] dX12_canCut_2 tX12_isPage rfl (by decide) nX12_isPage vX12_isPage lX12_286 ⟨by decide, by decide⟩ (Nat.le_of_ble_eq_true rfl) (mO hc.1) (Nat.le_of_ble_eq_true rfl) rfl ?_
  refine pX12_isPage' hc hd (fun j1 hj1 ej1 => ?_) (fun nj1 => ?_)
  · subst ej1
    have xs1 := ix_nI hj1 (by omega)
    intro _ _
    refine wp_if_eq dX12_canCut_5 (fun q => absurd q (by decide +kernel)) (fun _ => ?_)
    refine wp_aload_n dX12_canCut_8 rfl rfl ?_
    refine wp_iload_n dX12_canCut_9 rfl rfl ?_
    refine wp_cV1 1 22 [some _, some _] dX12_canCut_10 tX12_isField rfl (by decide) nX12_isField vX12_isField lX12_299 ⟨by decide, by decide⟩ (Nat.le_of_ble_eq_true rfl) (mO hc.1) (Nat.le_of_ble_eq_true rfl) rfl ?_
    refine pX12_isField' hc hd (fun j2 hj2 ej2 => ?_) (fun nj2 => ?_)
    · subst ej2
      have xs2 := ix_nI hj2 (by omega)
      intro _ _
      refine wp_if_eq dX12_canCut_13 (fun q => absurd q (by decide +kernel)) (fun _ => ?_)
      refine wp_aload_n dX12_canCut_16 rfl rfl ?_
      refine wp_iload_n dX12_canCut_17 rfl rfl ?_
      refine wp_cV1 1 20 [some _, some _] dX12_canCut_18 tX12_isLearnt rfl (by decide) nX12_isLearnt vX12_isLearnt lX12_466 ⟨by decide, by decide⟩ (Nat.le_of_ble_eq_true rfl) (mO hc.1) (Nat.le_of_ble_eq_true rfl) rfl ?_
      refine pX12_isLearnt' hc hd (by omega) (fun l3 => ?_) (fun l3 => ?_)
      · intro _ _
        refine wp_if_eq dX12_canCut_21 (fun q => absurd q (by decide +kernel)) (fun _ => ?_)
        refine wp_iconst (v := (nI 1)) dX12_canCut_24 (by decide +kernel) ?_
        refine wp_goto dX12_canCut_25 ?_
        refine wp_zreturn dX12_canCut_29 rfl (Or.inr rfl) ?_
        refine ht _ _ ?_ rfl rfl hj1 hj2 l3
        unfold cnC
        simp only [xs1, xs2]
        rw [if_pos l3]
      · intro _ _
        refine wp_if_eq dX12_canCut_21 (fun _ => ?_) (fun q => absurd q (by decide +kernel))
        refine wp_iconst (v := (nI 0)) dX12_canCut_28 (by decide +kernel) ?_
        refine wp_zreturn dX12_canCut_29 rfl (Or.inl rfl) ?_
        refine hf ?_
        unfold cnC
        first | (simp only [*]; done) | (simp only [xs1, xs2]; rw [if_neg (by rw [l3]; decide)])
    · have xn2 := ix_none (by omega) nj2
      intro _ _
      refine wp_if_eq dX12_canCut_13 (fun _ => ?_) (fun q => absurd q (by decide +kernel))
      refine wp_iconst (v := (nI 0)) dX12_canCut_28 (by decide +kernel) ?_
      refine wp_zreturn dX12_canCut_29 rfl (Or.inl rfl) ?_
      refine hf ?_
      unfold cnC
      first | (simp only [*]; done) | (simp only [xs1, xs2]; rw [if_neg (by rw [l3]; decide)])
  · have xn1 := ix_none (by omega) nj1
    intro _ _
    refine wp_if_eq dX12_canCut_5 (fun _ => ?_) (fun q => absurd q (by decide +kernel))
    refine wp_iconst (v := (nI 0)) dX12_canCut_28 (by decide +kernel) ?_
    refine wp_zreturn dX12_canCut_29 rfl (Or.inl rfl) ?_
    refine hf ?_
    unfold cnC
    first | (simp only [*]; done) | (simp only [xs1, xs2]; rw [if_neg (by rw [l3]; decide)])
def spBy (r : Nat → Int64) (F : Nat) (pa my : Nat → Int32) (x y : Int32) : Int32 := match cnC r F x y with
  | some z => cuB (cuX r pa my z.1 (-1) z.2)
  | none => -1
def partV (l : List (Nat × Nat)) (i what : Int32) : Int32 := if i = -1 then nI l.length else match ix i l.length with
  | some j => if what = 0 then nI (l.getD j (0, 0)).1 else if what = 1 then nI (l.getD j (0, 0)).2 else -1
  | none => -1
theorem partV_a {l : List (Nat × Nat)} {i what : Int32} (h : i = -1) : partV l i what = nI l.length := if_pos h
theorem partV_n {l : List (Nat × Nat)} {i what : Int32} (h : ¬ i = -1) (h2 : ix i l.length = none) : partV l i what = -1 := by
  unfold partV
  rw [if_neg h, h2]
theorem partV_s {l : List (Nat × Nat)} {i what : Int32} {j : Nat} (h : ¬ i = -1) (h2 : ix i l.length = some j) : partV l i what = if what = 0 then nI (l.getD j (0, 0)).1 else if what = 1 then nI (l.getD j (0, 0)).2 else -1 := by
  unfold partV
  rw [if_neg h, h2]
def spCut (r : Nat → Int64) (F : Nat) (pa my : Nat → Int32) (x y i what : Int32) : Int32 := match cnC r F x y with
  | some z => partV (cuL (cuX r pa my z.1 (-1) z.2)) i what
  | none => -1
set_option maxRecDepth 20000 in
theorem pX12_by {h : mH} {Q : Option Value → mH → Prop} {r : Nat → Int64} {F : Nat} {pa my : Nat → Int32} {x y : Int32} {v : Int32} (hc : mC h r F pa my) (hd : sOK r F pa my) (hq : ∀ {v} h', mFr pwS h h' → spBy r F pa my x y = v → Q (some (.int v)) h') : Wp mX12_by 8 198 0 [some (.ref 153), some (.int x), some (.int y)] [] h Q := by
  have hF4 := hd.f4
  have hP6 := hd.w.1.2
  refine wp_aload_n dX12_by_0 rfl rfl ?_
  refine wp_iload_n dX12_by_1 rfl rfl ?_
  refine wp_iload_n dX12_by_2 rfl rfl ?_
  refine wp_cV2 2 43 [some _, some _, some _] dX12_by_3 tX12_canCut rfl (by decide) nX12_canCut vX12_canCut lX12_485 ⟨by decide, by decide⟩ (Nat.le_of_ble_eq_true rfl) (mO hc.1) (Nat.le_of_ble_eq_true rfl) rfl ?_
  refine pX12_canCut hc hd (fun p1 q1 cn1 ex1 ey1 hp1 hf1 hl1 => ?_) (fun cn1 => ?_)
  · subst ex1
    subst ey1
    intro _ _
    refine wp_if_ne dX12_by_6 (fun _ => ?_) (fun q => absurd q (by decide +kernel))
    refine wp_aload_n dX12_by_11 rfl rfl ?_
    refine wp_iload_n dX12_by_12 rfl rfl ?_
    refine wp_iload_n dX12_by_13 rfl rfl ?_
    refine wp_cV2 7 176 [some _, some _, some _] dX12_by_14 tX12_cutsPage rfl (by decide) nX12_cutsPage vX12_cutsPage lX12_488 ⟨by decide, by decide⟩ (Nat.le_of_ble_eq_true rfl) (mO hc.1) (Nat.le_of_ble_eq_true rfl) rfl ?_
    refine pX12_cutsPage hc hd (by omega) (by omega) (fun hh2 f2 nx2 rx2 k2 b2 => ?_)
    intro _ _
    have mc2 := hc.fr f2 (by decide) (by decide) (by decide) (by decide) (by decide)
    have hk8 := k2.2.1
    refine wp_aload_n dX12_by_17 rfl rfl ?_
    refine wp_getIV dX12_by_18 lX12_475 rfl (mO mc2.1) b2 ?_
    refine wp_ireturn dX12_by_21 rfl ?_
    exact hq _ (f2.up (by decide) (by decide)) (by unfold spBy; rw [cn1])
  · intro _ _
    refine wp_if_ne dX12_by_6 (fun q => absurd q (by decide +kernel)) (fun _ => ?_)
    refine wp_iconst (v := (-1)) dX12_by_9 (by decide +kernel) ?_
    refine wp_ireturn dX12_by_10 rfl ?_
    exact hq _ mFr.rf (by unfold spBy; rw [cn1])
set_option maxRecDepth 20000 in
theorem pX12_cut {h : mH} {Q : Option Value → mH → Prop} {r : Nat → Int64} {F : Nat} {pa my : Nat → Int32} {x y i what : Int32} (hc : mC h r F pa my) (hd : sOK r F pa my) (hq : ∀ {v} h', mFr pwS h h' → spCut r F pa my x y i what = v → Q (some (.int v)) h') : Wp mX12_cut 8 198 0 [some (.ref 153), some (.int x), some (.int y), some (.int i), some (.int what)] [] h Q := by
  have hF4 := hd.f4
  have hP6 := hd.w.1.2
  refine wp_aload_n dX12_cut_0 rfl rfl ?_
  refine wp_iload_n dX12_cut_1 rfl rfl ?_
  refine wp_iload_n dX12_cut_2 rfl rfl ?_
  refine wp_cV2 2 43 [some _, some _, some _] dX12_cut_3 tX12_canCut rfl (by decide) nX12_canCut vX12_canCut lX12_485 ⟨by decide, by decide⟩ (Nat.le_of_ble_eq_true rfl) (mO hc.1) (Nat.le_of_ble_eq_true rfl) rfl ?_
  refine pX12_canCut hc hd (fun p1 q1 cn1 ex1 ey1 hp1 hf1 hl1 => ?_) (fun cn1 => ?_)
  · subst ex1
    subst ey1
    intro _ _
    refine wp_if_ne dX12_cut_6 (fun _ => ?_) (fun q => absurd q (by decide +kernel))
    refine wp_aload_n dX12_cut_11 rfl rfl ?_
    refine wp_iload_n dX12_cut_12 rfl rfl ?_
    refine wp_iload_n dX12_cut_13 rfl rfl ?_
    refine wp_cV2 7 176 [some _, some _, some _] dX12_cut_14 tX12_cutsPage rfl (by decide) nX12_cutsPage vX12_cutsPage lX12_488 ⟨by decide, by decide⟩ (Nat.le_of_ble_eq_true rfl) (mO hc.1) (Nat.le_of_ble_eq_true rfl) rfl ?_
    refine pX12_cutsPage hc hd (by omega) (by omega) (fun hh2 f2 nx2 rx2 k2 b2 => ?_)
    intro _ _
    have mc2 := hc.fr f2 (by decide) (by decide) (by decide) (by decide) (by decide)
    have hk8 := k2.2.1
    refine wp_iload_n dX12_cut_17 rfl rfl ?_
    refine wp_iconst (v := (-1)) dX12_cut_18 (by decide +kernel) ?_
    refine wp_icmp_ne dX12_cut_19 (fun c2 => ?_) (fun c2 => ?_)
    · refine wp_iload_n dX12_cut_27 rfl rfl ?_
      refine wp_iconst (v := (nI 0)) dX12_cut_28 (by decide +kernel) ?_
      refine wp_aload_n dX12_cut_29 rfl rfl ?_
      refine wp_getIV dX12_cut_30 lX12_337 rfl (mO mc2.1) k2.1 ?_
      refine wp_iconst (v := (nI 1)) dX12_cut_33 (by decide +kernel) ?_
      refine wp_isub dX12_cut_34 ?_
      refine wp_cS3 0 0 [some _, some _, some _] dX12_cut_35 tX12_isIn sX12_isIn lX12_147 ⟨by decide, by decide⟩ (Nat.le_of_ble_eq_true rfl) (Nat.le_of_ble_eq_true rfl) rfl ?_
      refine pX12_isIn (fun i3 => ?_) (fun i3 => ?_)
      · obtain ⟨j3, hj3, ej3⟩ := (ixN (by omega)).mp i3
        subst ej3
        have xs3 := ix_nI hj3 (by omega)
        intro _ _
        refine wp_if_ne dX12_cut_38 (fun _ => ?_) (fun q => absurd q (by decide +kernel))
        refine wp_iload dX12_cut_43 rfl ?_
        refine wp_if_ne dX12_cut_45 (fun c4 => ?_) (fun c4 => ?_)
        · refine wp_iload dX12_cut_57 rfl ?_
          refine wp_iconst (v := (nI 1)) dX12_cut_59 (by decide +kernel) ?_
          refine wp_icmp_ne dX12_cut_60 (fun c5 => ?_) (fun c5 => ?_)
          · refine wp_iconst (v := (-1)) dX12_cut_72 (by decide +kernel) ?_
            refine wp_ireturn dX12_cut_73 rfl ?_
            refine hq _ (f2.up (by decide) (by decide)) ?_
            unfold spCut
            rw [cn1]
            show partV (cuL (cuX r pa my p1 (-1) q1)) _ _ = _
            first | exact partV_a (by assumption) | exact partV_n (by assumption) xn3 | (rw [partV_s (by assumption) xs3]; first | rw [if_pos (by assumption)] | rw [if_neg (by assumption), if_pos (by assumption)] | rw [if_neg (by assumption), if_neg (by assumption)])
          · refine wp_aload_n dX12_cut_63 rfl rfl ?_
            refine wp_getR dX12_cut_64 lX12_67 rfl (mO mc2.1) (mR_cutTo mc2.1) ?_
            refine wp_iload_n dX12_cut_67 rfl rfl ?_
            refine wp_ialdV dX12_cut_68 (mA_cutTo mc2.1) rfl ⟨by omega, by decide⟩ (k2.2.2 _ (by omega)).2.1 ?_
            refine wp_goto dX12_cut_69 ?_
            refine wp_ireturn dX12_cut_73 rfl ?_
            refine hq _ (f2.up (by decide) (by decide)) ?_
            unfold spCut
            rw [cn1]
            show partV (cuL (cuX r pa my p1 (-1) q1)) _ _ = _
            first | exact partV_a (by assumption) | exact partV_n (by assumption) xn3 | (rw [partV_s (by assumption) xs3]; first | rw [if_pos (by assumption)] | rw [if_neg (by assumption), if_pos (by assumption)] | rw [if_neg (by assumption), if_neg (by assumption)])
        · refine wp_aload_n dX12_cut_48 rfl rfl ?_
          refine wp_getR dX12_cut_49 lX12_64 rfl (mO mc2.1) (mR_cutFrom mc2.1) ?_
          refine wp_iload_n dX12_cut_52 rfl rfl ?_
          refine wp_ialdV dX12_cut_53 (mA_cutFrom mc2.1) rfl ⟨by omega, by decide⟩ (k2.2.2 _ (by omega)).1 ?_
          refine wp_goto dX12_cut_54 ?_
          refine wp_ireturn dX12_cut_73 rfl ?_
          refine hq _ (f2.up (by decide) (by decide)) ?_
          unfold spCut
          rw [cn1]
          show partV (cuL (cuX r pa my p1 (-1) q1)) _ _ = _
          first | exact partV_a (by assumption) | exact partV_n (by assumption) xn3 | (rw [partV_s (by assumption) xs3]; first | rw [if_pos (by assumption)] | rw [if_neg (by assumption), if_pos (by assumption)] | rw [if_neg (by assumption), if_neg (by assumption)])
      · have xn3 := ix_none (by omega) (fun j hj ej => i3 ((ixN (by omega)).mpr ⟨j, hj, ej⟩))
        intro _ _
        refine wp_if_ne dX12_cut_38 (fun q => absurd q (by decide +kernel)) (fun _ => ?_)
        refine wp_iconst (v := (-1)) dX12_cut_41 (by decide +kernel) ?_
        refine wp_ireturn dX12_cut_42 rfl ?_
        refine hq _ (f2.up (by decide) (by decide)) ?_
        unfold spCut
        rw [cn1]
        show partV (cuL (cuX r pa my p1 (-1) q1)) _ _ = _
        first | exact partV_a (by assumption) | exact partV_n (by assumption) xn3 | (rw [partV_s (by assumption) xs3]; first | rw [if_pos (by assumption)] | rw [if_neg (by assumption), if_pos (by assumption)] | rw [if_neg (by assumption), if_neg (by assumption)])
    · refine wp_aload_n dX12_cut_22 rfl rfl ?_
      refine wp_getIV dX12_cut_23 lX12_337 rfl (mO mc2.1) k2.1 ?_
      refine wp_ireturn dX12_cut_26 rfl ?_
      refine hq _ (f2.up (by decide) (by decide)) ?_
      unfold spCut
      rw [cn1]
      show partV (cuL (cuX r pa my p1 (-1) q1)) _ _ = _
      first | exact partV_a (by assumption) | exact partV_n (by assumption) xn3 | (rw [partV_s (by assumption) xs3]; first | rw [if_pos (by assumption)] | rw [if_neg (by assumption), if_pos (by assumption)] | rw [if_neg (by assumption), if_neg (by assumption)])
  · intro _ _
    refine wp_if_ne dX12_cut_6 (fun q => absurd q (by decide +kernel)) (fun _ => ?_)
    refine wp_iconst (v := (-1)) dX12_cut_9 (by decide +kernel) ?_
    refine wp_ireturn dX12_cut_10 rfl ?_
    exact hq _ mFr.rf (by unfold spCut; rw [cn1])
