/-! ===== what is proposed; the next page ===== -/
def okO (r : Nat → Int64) (p f : Nat) (l : List (Nat × Nat)) : Prop := l ≠ [] ∧ dfR r f (rwW r p (-1)) l = 0
def prP (r : Nat → Int64) (pa my : Nat → Int32) (p f : Nat) (res : Option (List (Nat × Nat))) : Prop := ∃ N OL V FK, opP r pa my p f N OL V FK ∧ match res with
  | some l => ∃ b, bstO N V FK (fun o => okO r p f (OL o)) b ∧ OL b = l
  | none => ∀ o, o < N → ¬ okO r p f (OL o)
def spProposed (r : Nat → Int64) (F : Nat) (pa my : Nat → Int32) (x y i what v : Int32) : Prop := match cnC r F x y with
  | some z => ∃ res, prP r pa my z.1 z.2 res ∧ v = (match res with | some l => partV l i what | none => -1)
  | none => v = -1
/-- the first page with the most opinions, of those that are no examples -/
def nxP (r : Nat → Int64) (pa my : Nat → Int32) (f t : Nat) (NN : Nat → Nat) (res : Option Nat) : Prop := match res with
  | some b => b < t ∧ rM r f b = 0 ∧ ∀ q, q < t → rM r f q = 0 → NN q < NN b ∨ (NN q = NN b ∧ b ≤ q)
  | none => ∀ q, q < t → 0 < rM r f q
def spNext (r : Nat → Int64) (F : Nat) (pa my : Nat → Int32) (x v : Int32) : Prop := match ix x F with
  | some f => ∃ (NN : Nat → Nat) (res : Option Nat), (∀ p, p < rP r → rM r f p = 0 → ∃ OL V FK, opP r pa my p f (NN p) OL V FK) ∧ nxP r pa my f (rP r) NN res ∧ v = (match res with | some b => nI b | none => -1)
  | none => v = -1
set_option maxRecDepth 20000 in
theorem prop_loop {h : mH} {Q : Option Value → mH → Prop} {r : Nat → Int64} {F : Nat} {pa my : Nat → Int32} {p f S n N : Nat} {K T : Nat → Nat} {OL : Nat → List (Nat × Nat)} {V FK : Nat → Nat} (hd : sOK r F pa my) (hf : f < F) (hp : p < rP r) (hl1 : r (655 + 70 * f) = 1) (vp : voP (fun i => gdB r pa my f S (K i)) (fun i => vtL r pa my p f (K i)) K n N OL V FK) (hN : N ≤ 9594) (hV : ∀ o, o < N → V o ≤ 9594) (K9 : ∀ h' (res : Option Nat), mFr (mP [35] [169, 170]) h h' → mC h' r F pa my → rowX r h' p (-1) → voH h' N OL V FK T → (match res with | some b => bstO N V FK (fun o => okO r p f (OL o)) b | none => ∀ o, o < N → ¬ okO r p f (OL o)) → Wp mX12_laysProposed 9 222 117 [some (.ref 153), some (.int (nI p)), some (.int (nI f)), some (.int (match res with | some b => nI b | none => -1)), some (.int (nI N))] [] h' Q) : ∀ (t9 i : Nat) (res : Option Nat) (h1 : mH), i ≤ N → mC h1 r F pa my → rowX r h1 p (-1) → voH h1 N OL V FK T → mFr (mP [35] [169, 170]) h h1 → (match res with | some b => bstO i V FK (fun o => okO r p f (OL o)) b | none => ∀ o, o < i → ¬ okO r p f (OL o)) → N < i + t9 → Wp mX12_laysProposed 9 222 21 [some (.ref 153), some (.int (nI p)), some (.int (nI f)), some (.int (match res with | some b => nI b | none => -1)), some (.int (nI i))] [] h1 Q := by
  have hF4 := hd.f4
  have hP6 := hd.w.1.2
  intro t9
  induction t9 with
  | zero => intros; omega
  | succ t9 ih =>
    intro i res h1 hi hc1 rx1 vo1 hf1 hb hmz
    cases res with
    | some b =>
      have hb : bstO i V FK (fun o => okO r p f (OL o)) b := hb
      have hbi := hb.1
      show Wp mX12_laysProposed 9 222 21 [some (.ref 153), some (.int (nI p)), some (.int (nI f)), some (.int (nI b)), some (.int (nI i))] [] h1 Q
      refine wp_iload dX12_laysProposed_21 rfl ?_
      refine wp_aload_n dX12_laysProposed_23 rfl rfl ?_
      refine wp_getIV dX12_laysProposed_24 lX12_517 rfl (mO hc1.1) vo1.1 ?_
      refine wp_icmp_geN dX12_laysProposed_27 rfl rfl ⟨by omega, by omega⟩ (fun c1 => ?_) (fun c1 => ?_)
      · have e9 : i = N := by omega
        subst e9
        exact K9 _ (some b) hf1 hc1 rx1 vo1 hb
      · refine wp_aload_n dX12_laysProposed_30 rfl rfl ?_
        refine wp_iload dX12_laysProposed_31 rfl ?_
        refine wp_cV1 0 0 [some _, some _, none, none] dX12_laysProposed_33 tX12_laysParts rfl (by decide) nX12_laysParts vX12_laysParts lX12_536 ⟨by decide, by decide⟩ (Nat.le_of_ble_eq_true rfl) (mO hc1.1) (Nat.le_of_ble_eq_true rfl) rfl ?_
        refine pX12_laysParts hc1.1 vo1 hN (by omega) (opP_srt hd hf (by omega) vp (show i < N by omega)).2 (fun hh1 f1 k1 => ?_)
        intro _ _
        have mc1 := hc1.fr f1 (by decide) (by decide) (by decide) (by decide) (by decide)
        have rx1 := rx1.fr f1 (by decide) (by decide)
        have vo1 := vo1.fr f1 (by decide) (by decide)
        refine wp_aload_n dX12_laysProposed_36 rfl rfl ?_
        refine wp_getIV dX12_laysProposed_37 lX12_337 rfl (mO mc1.1) k1.1 ?_
        refine wp_if_eqN dX12_laysProposed_40 rfl (by have := k1.2.1; omega) (fun c2 => ?_) (fun c2 => ?_)
        · refine wp_iinc1 (ls1 := [_, _, _, _, some _]) dX12_laysProposed_111 rfl (by decide) rfl ?_
          refine wp_goto dX12_laysProposed_114 ?_
          refine ih (i + 1) (some b) _ (by omega) mc1 rx1 vo1 ((hf1.up (by decide) (by decide)).tr (f1.up (by decide) (by decide))) ⟨by omega, hb.2.1, fun o9 ho9 k9 => ?_⟩ (by omega)
          by_cases e9 : o9 = i
          · subst e9
            first | (have h8 := (pk_lLE (by have := (vo1.2.1 b (by omega)).2.1.2; omega) (by have := (vo1.2.1 o9 (by omega)).2.1.2; omega)).mp (by assumption : lN (FK b) ≤ lN (FK o9)); omega) | omega | exact absurd k9.2 (by omega) | exact absurd (List.length_eq_zero_iff.mp (by assumption)) k9.1
          · exact hb.2.2 o9 (by omega) k9
        · refine wp_aload_n dX12_laysProposed_43 rfl rfl ?_
          refine wp_iload_n dX12_laysProposed_44 rfl rfl ?_
          refine wp_cV1 2 42 [some _, some _, none, none, none, none] dX12_laysProposed_45 tX12_driftOfCuts rfl (by decide) nX12_driftOfCuts vX12_driftOfCuts lX12_500 ⟨by decide, by decide⟩ (Nat.le_of_ble_eq_true rfl) (mO mc1.1) (Nat.le_of_ble_eq_true rfl) rfl ?_
          refine pX12_driftOfCuts mc1 hd hf hl1 hp rx1 k1 (srt_in (opP_srt hd hf (by omega) vp (show i < N by omega)).1) ?_
          intro _ _
          refine wp_if_leN dX12_laysProposed_48 rfl (by have := @dfR_le r f (rwW r p (-1)) (OL i); omega) (fun c3 => ?_) (fun c3 => ?_)
          · refine wp_iload_n dX12_laysProposed_54 rfl rfl ?_
            refine wp_iconst (v := (-1)) dX12_laysProposed_55 (by decide +kernel) ?_
            refine wp_icmp_eq dX12_laysProposed_56 (fun q => absurd q (nI_ne_m1 (by omega))) (fun _ => ?_)
            refine wp_aload_n dX12_laysProposed_59 rfl rfl ?_
            refine wp_getR dX12_laysProposed_60 lX12_122 rfl (mO mc1.1) (mR_votes mc1.1) ?_
            refine wp_iload dX12_laysProposed_63 rfl ?_
            refine wp_ialdV dX12_laysProposed_65 (mA_votes mc1.1) rfl ⟨by omega, by decide⟩ (vo1.2.1 i (by omega)).2.2.1 ?_
            refine wp_aload_n dX12_laysProposed_66 rfl rfl ?_
            refine wp_getR dX12_laysProposed_67 lX12_122 rfl (mO mc1.1) (mR_votes mc1.1) ?_
            refine wp_iload_n dX12_laysProposed_70 rfl rfl ?_
            refine wp_ialdV dX12_laysProposed_71 (mA_votes mc1.1) rfl ⟨by omega, by decide⟩ (vo1.2.1 b (by omega)).2.2.1 ?_
            refine wp_icmp_gtN dX12_laysProposed_72 rfl rfl ⟨by have := hV i (by omega); omega, by have := hV b (by omega); omega⟩ (fun c5 => ?_) (fun c5 => ?_)
            · refine wp_iload dX12_laysProposed_108 rfl ?_
              refine wp_istore_n (ls1 := [_, _, _, some _, _]) dX12_laysProposed_110 rfl (by decide) rfl ?_
              refine wp_iinc1 (ls1 := [_, _, _, _, some _]) dX12_laysProposed_111 rfl (by decide) rfl ?_
              refine wp_goto dX12_laysProposed_114 ?_
              have okI : okO r p f (OL i) := ⟨fun z9 => by have h9 : 0 < (OL i).length := (by assumption); rw [z9] at h9; exact absurd h9 (by decide), by assumption⟩
              refine ih (i + 1) (some i) _ (by omega) mc1 rx1 vo1 ((hf1.up (by decide) (by decide)).tr (f1.up (by decide) (by decide))) ⟨by omega, okI, fun o9 ho9 k9 => ?_⟩ (by omega)
              by_cases e9 : o9 = i
              · subst e9; exact Or.inr ⟨rfl, Nat.le_refl _⟩
              · have h9 := hb.2.2 o9 (by omega) k9
                first | omega | (have h8 : FK i < FK b := Nat.lt_of_not_le (fun z9 => (by assumption : ¬ lN (FK b) ≤ lN (FK i)) ((pk_lLE (by have := (vo1.2.1 b (by omega)).2.1.2; omega) (by have := (vo1.2.1 i (by omega)).2.1.2; omega)).mpr z9)); omega)
            · refine wp_aload_n dX12_laysProposed_75 rfl rfl ?_
              refine wp_getR dX12_laysProposed_76 lX12_122 rfl (mO mc1.1) (mR_votes mc1.1) ?_
              refine wp_iload dX12_laysProposed_79 rfl ?_
              refine wp_ialdV dX12_laysProposed_81 (mA_votes mc1.1) rfl ⟨by omega, by decide⟩ (vo1.2.1 i (by omega)).2.2.1 ?_
              refine wp_aload_n dX12_laysProposed_82 rfl rfl ?_
              refine wp_getR dX12_laysProposed_83 lX12_122 rfl (mO mc1.1) (mR_votes mc1.1) ?_
              refine wp_iload_n dX12_laysProposed_86 rfl rfl ?_
              refine wp_ialdV dX12_laysProposed_87 (mA_votes mc1.1) rfl ⟨by omega, by decide⟩ (vo1.2.1 b (by omega)).2.2.1 ?_
              refine wp_icmp_neN dX12_laysProposed_88 rfl rfl ⟨by have := hV i (by omega); omega, by have := hV b (by omega); omega⟩ (fun c6 => ?_) (fun c6 => ?_)
              · refine wp_iinc1 (ls1 := [_, _, _, _, some _]) dX12_laysProposed_111 rfl (by decide) rfl ?_
                refine wp_goto dX12_laysProposed_114 ?_
                refine ih (i + 1) (some b) _ (by omega) mc1 rx1 vo1 ((hf1.up (by decide) (by decide)).tr (f1.up (by decide) (by decide))) ⟨by omega, hb.2.1, fun o9 ho9 k9 => ?_⟩ (by omega)
                by_cases e9 : o9 = i
                · subst e9
                  first | (have h8 := (pk_lLE (by have := (vo1.2.1 b (by omega)).2.1.2; omega) (by have := (vo1.2.1 o9 (by omega)).2.1.2; omega)).mp (by assumption : lN (FK b) ≤ lN (FK o9)); omega) | omega | exact absurd k9.2 (by omega) | exact absurd (List.length_eq_zero_iff.mp (by assumption)) k9.1
                · exact hb.2.2 o9 (by omega) k9
              · refine wp_aload_n dX12_laysProposed_91 rfl rfl ?_
                refine wp_getR dX12_laysProposed_92 lX12_119 rfl (mO mc1.1) (mR_firstKey mc1.1) ?_
                refine wp_iload dX12_laysProposed_95 rfl ?_
                refine wp_laldV dX12_laysProposed_97 (mA_firstKey mc1.1) rfl ⟨by omega, by decide⟩ (vo1.2.1 i (by omega)).2.1.1 ?_
                refine wp_aload_n dX12_laysProposed_98 rfl rfl ?_
                refine wp_getR dX12_laysProposed_99 lX12_119 rfl (mO mc1.1) (mR_firstKey mc1.1) ?_
                refine wp_iload_n dX12_laysProposed_102 rfl rfl ?_
                refine wp_laldV dX12_laysProposed_103 (mA_firstKey mc1.1) rfl ⟨by omega, by decide⟩ (vo1.2.1 b (by omega)).2.1.1 ?_
                refine wp_lc_ge dX12_laysProposed_104 dX12_laysProposed_105 (fun c7 => ?_) (fun c7 => ?_)
                · refine wp_iinc1 (ls1 := [_, _, _, _, some _]) dX12_laysProposed_111 rfl (by decide) rfl ?_
                  refine wp_goto dX12_laysProposed_114 ?_
                  refine ih (i + 1) (some b) _ (by omega) mc1 rx1 vo1 ((hf1.up (by decide) (by decide)).tr (f1.up (by decide) (by decide))) ⟨by omega, hb.2.1, fun o9 ho9 k9 => ?_⟩ (by omega)
                  by_cases e9 : o9 = i
                  · subst e9
                    first | (have h8 := (pk_lLE (by have := (vo1.2.1 b (by omega)).2.1.2; omega) (by have := (vo1.2.1 o9 (by omega)).2.1.2; omega)).mp (by assumption : lN (FK b) ≤ lN (FK o9)); omega) | omega | exact absurd k9.2 (by omega) | exact absurd (List.length_eq_zero_iff.mp (by assumption)) k9.1
                  · exact hb.2.2 o9 (by omega) k9
                · refine wp_iload dX12_laysProposed_108 rfl ?_
                  refine wp_istore_n (ls1 := [_, _, _, some _, _]) dX12_laysProposed_110 rfl (by decide) rfl ?_
                  refine wp_iinc1 (ls1 := [_, _, _, _, some _]) dX12_laysProposed_111 rfl (by decide) rfl ?_
                  refine wp_goto dX12_laysProposed_114 ?_
                  have okI : okO r p f (OL i) := ⟨fun z9 => by have h9 : 0 < (OL i).length := (by assumption); rw [z9] at h9; exact absurd h9 (by decide), by assumption⟩
                  refine ih (i + 1) (some i) _ (by omega) mc1 rx1 vo1 ((hf1.up (by decide) (by decide)).tr (f1.up (by decide) (by decide))) ⟨by omega, okI, fun o9 ho9 k9 => ?_⟩ (by omega)
                  by_cases e9 : o9 = i
                  · subst e9; exact Or.inr ⟨rfl, Nat.le_refl _⟩
                  · have h9 := hb.2.2 o9 (by omega) k9
                    first | omega | (have h8 : FK i < FK b := Nat.lt_of_not_le (fun z9 => (by assumption : ¬ lN (FK b) ≤ lN (FK i)) ((pk_lLE (by have := (vo1.2.1 b (by omega)).2.1.2; omega) (by have := (vo1.2.1 i (by omega)).2.1.2; omega)).mpr z9)); omega)
          · refine wp_goto dX12_laysProposed_51 ?_
            refine wp_iinc1 (ls1 := [_, _, _, _, some _]) dX12_laysProposed_111 rfl (by decide) rfl ?_
            refine wp_goto dX12_laysProposed_114 ?_
            refine ih (i + 1) (some b) _ (by omega) mc1 rx1 vo1 ((hf1.up (by decide) (by decide)).tr (f1.up (by decide) (by decide))) ⟨by omega, hb.2.1, fun o9 ho9 k9 => ?_⟩ (by omega)
            by_cases e9 : o9 = i
            · subst e9
              first | (have h8 := (pk_lLE (by have := (vo1.2.1 b (by omega)).2.1.2; omega) (by have := (vo1.2.1 o9 (by omega)).2.1.2; omega)).mp (by assumption : lN (FK b) ≤ lN (FK o9)); omega) | omega | exact absurd k9.2 (by omega) | exact absurd (List.length_eq_zero_iff.mp (by assumption)) k9.1
            · exact hb.2.2 o9 (by omega) k9
    | none =>
      have hb : ∀ o, o < i → ¬ okO r p f (OL o) := hb
      show Wp mX12_laysProposed 9 222 21 [some (.ref 153), some (.int (nI p)), some (.int (nI f)), some (.int (-1)), some (.int (nI i))] [] h1 Q
      refine wp_iload dX12_laysProposed_21 rfl ?_
      refine wp_aload_n dX12_laysProposed_23 rfl rfl ?_
      refine wp_getIV dX12_laysProposed_24 lX12_517 rfl (mO hc1.1) vo1.1 ?_
      refine wp_icmp_geN dX12_laysProposed_27 rfl rfl ⟨by omega, by omega⟩ (fun c1 => ?_) (fun c1 => ?_)
      · have e9 : i = N := by omega
        subst e9
        exact K9 _ none hf1 hc1 rx1 vo1 hb
      · refine wp_aload_n dX12_laysProposed_30 rfl rfl ?_
        refine wp_iload dX12_laysProposed_31 rfl ?_
        refine wp_cV1 0 0 [some _, some _, none, none] dX12_laysProposed_33 tX12_laysParts rfl (by decide) nX12_laysParts vX12_laysParts lX12_536 ⟨by decide, by decide⟩ (Nat.le_of_ble_eq_true rfl) (mO hc1.1) (Nat.le_of_ble_eq_true rfl) rfl ?_
        refine pX12_laysParts hc1.1 vo1 hN (by omega) (opP_srt hd hf (by omega) vp (show i < N by omega)).2 (fun hh1 f1 k1 => ?_)
        intro _ _
        have mc1 := hc1.fr f1 (by decide) (by decide) (by decide) (by decide) (by decide)
        have rx1 := rx1.fr f1 (by decide) (by decide)
        have vo1 := vo1.fr f1 (by decide) (by decide)
        refine wp_aload_n dX12_laysProposed_36 rfl rfl ?_
        refine wp_getIV dX12_laysProposed_37 lX12_337 rfl (mO mc1.1) k1.1 ?_
        refine wp_if_eqN dX12_laysProposed_40 rfl (by have := k1.2.1; omega) (fun c2 => ?_) (fun c2 => ?_)
        · refine wp_iinc1 (ls1 := [_, _, _, _, some _]) dX12_laysProposed_111 rfl (by decide) rfl ?_
          refine wp_goto dX12_laysProposed_114 ?_
          refine ih (i + 1) none _ (by omega) mc1 rx1 vo1 ((hf1.up (by decide) (by decide)).tr (f1.up (by decide) (by decide))) (fun o9 ho9 k9 => ?_) (by omega)
          by_cases e9 : o9 = i
          · subst e9
            first | exact absurd k9.2 (by omega) | exact absurd (List.length_eq_zero_iff.mp (by assumption)) k9.1
          · exact hb o9 (by omega) k9
        · refine wp_aload_n dX12_laysProposed_43 rfl rfl ?_
          refine wp_iload_n dX12_laysProposed_44 rfl rfl ?_
          refine wp_cV1 2 42 [some _, some _, none, none, none, none] dX12_laysProposed_45 tX12_driftOfCuts rfl (by decide) nX12_driftOfCuts vX12_driftOfCuts lX12_500 ⟨by decide, by decide⟩ (Nat.le_of_ble_eq_true rfl) (mO mc1.1) (Nat.le_of_ble_eq_true rfl) rfl ?_
          refine pX12_driftOfCuts mc1 hd hf hl1 hp rx1 k1 (srt_in (opP_srt hd hf (by omega) vp (show i < N by omega)).1) ?_
          intro _ _
          refine wp_if_leN dX12_laysProposed_48 rfl (by have := @dfR_le r f (rwW r p (-1)) (OL i); omega) (fun c3 => ?_) (fun c3 => ?_)
          · refine wp_iload_n dX12_laysProposed_54 rfl rfl ?_
            refine wp_iconst (v := (-1)) dX12_laysProposed_55 (by decide +kernel) ?_
            refine wp_icmp_eq dX12_laysProposed_56 (fun _ => ?_) (fun q => absurd (by decide +kernel) q)
            refine wp_iload dX12_laysProposed_108 rfl ?_
            refine wp_istore_n (ls1 := [_, _, _, some _, _]) dX12_laysProposed_110 rfl (by decide) rfl ?_
            refine wp_iinc1 (ls1 := [_, _, _, _, some _]) dX12_laysProposed_111 rfl (by decide) rfl ?_
            refine wp_goto dX12_laysProposed_114 ?_
            have okI : okO r p f (OL i) := ⟨fun z9 => by have h9 : 0 < (OL i).length := (by assumption); rw [z9] at h9; exact absurd h9 (by decide), by assumption⟩
            refine ih (i + 1) (some i) _ (by omega) mc1 rx1 vo1 ((hf1.up (by decide) (by decide)).tr (f1.up (by decide) (by decide))) ⟨by omega, okI, fun o9 ho9 k9 => ?_⟩ (by omega)
            by_cases e9 : o9 = i
            · subst e9; exact Or.inr ⟨rfl, Nat.le_refl _⟩
            · exact absurd k9 (hb o9 (by omega))
          · refine wp_goto dX12_laysProposed_51 ?_
            refine wp_iinc1 (ls1 := [_, _, _, _, some _]) dX12_laysProposed_111 rfl (by decide) rfl ?_
            refine wp_goto dX12_laysProposed_114 ?_
            refine ih (i + 1) none _ (by omega) mc1 rx1 vo1 ((hf1.up (by decide) (by decide)).tr (f1.up (by decide) (by decide))) (fun o9 ho9 k9 => ?_) (by omega)
            by_cases e9 : o9 = i
            · subst e9
              first | exact absurd k9.2 (by omega) | exact absurd (List.length_eq_zero_iff.mp (by assumption)) k9.1
            · exact hb o9 (by omega) k9
set_option maxRecDepth 20000 in
theorem pX12_laysProposed {h : mH} {Q : Option Value → mH → Prop} {r : Nat → Int64} {F : Nat} {pa my : Nat → Int32} {p f : Nat} (hc : mC h r F pa my) (hd : sOK r F pa my) (hf : f < F) (hp : p < rP r) (hl1 : r (655 + 70 * f) = 1) (ht : ∀ h' l, mFr (mP [24, 32, 35, 41, 50, 60, 61, 62] [163, 164, 165, 167, 168, 169, 170, 171, 172, 173, 174, 175, 182, 185, 186, 187, 188, 189]) h h' → prP r pa my p f (some l) → cutsOK h' l → l ≠ [] → srt l (rowL (-1) (rT r p)).length → Q (some (.int (nI 1))) h') (hf0 : ∀ h', mFr (mP [24, 32, 35, 41, 50, 60, 61, 62] [163, 164, 165, 167, 168, 169, 170, 171, 172, 173, 174, 175, 182, 185, 186, 187, 188, 189]) h h' → prP r pa my p f none → Q (some (.int (nI 0))) h') : Wp mX12_laysProposed 9 222 0 [some (.ref 153), some (.int (nI p)), some (.int (nI f)), none, none] [] h Q := by
  have hF4 := hd.f4
  have hP6 := hd.w.1.2
  refine wp_aload_n dX12_laysProposed_0 rfl rfl ?_
  refine wp_iload_n dX12_laysProposed_1 rfl rfl ?_
  refine wp_aload_n dX12_laysProposed_2 rfl rfl ?_
  refine wp_iload_n dX12_laysProposed_3 rfl rfl ?_
  refine wp_cV1 2 43 [some _, some _, none, none] dX12_laysProposed_4 tX12_examples rfl (by decide) nX12_examples vX12_examples lX12_407 ⟨by decide, by decide⟩ (Nat.le_of_ble_eq_true rfl) (mO hc.1) (Nat.le_of_ble_eq_true rfl) rfl ?_
  refine pX12_examplesN hc hd (by omega) ?_
  intro _ _
  refine wp_cV2 6 153 [some _, some _, some _, none, none, none] dX12_laysProposed_7 tX12_laysRules rfl (by decide) nX12_laysRules vX12_laysRules lX12_410 ⟨by decide, by decide⟩ (Nat.le_of_ble_eq_true rfl) (mO hc.1) (Nat.le_of_ble_eq_true rfl) rfl ?_
  refine pX12_laysRules hc hd (by omega) (exE_lt hd) (fun p hp => exE_tb hp) (fun hh1 n1 K1 O1 f1 nx1 rl1 => ?_)
  intro _ _
  have mc1 := hc.fr f1 (by decide) (by decide) (by decide) (by decide) (by decide)
  refine wp_aload_n dX12_laysProposed_10 rfl rfl ?_
  refine wp_iload_n dX12_laysProposed_11 rfl rfl ?_
  refine wp_iload_n dX12_laysProposed_12 rfl rfl ?_
  refine wp_cV2 8 198 [some _, some _, some _, none, none] dX12_laysProposed_13 tX12_laysVotes rfl (by decide) nX12_laysVotes vX12_laysVotes lX12_526 ⟨by decide, by decide⟩ (Nat.le_of_ble_eq_true rfl) (mO mc1.1) (Nat.le_of_ble_eq_true rfl) rfl ?_
  refine pX12_laysVotes mc1 hd (by omega) (by omega) rl1 (fun hh2 N2 OL2 V2 FK2 T2 f2 rl2 rx2 vo2 vp2 => ?_)
  intro _ _
  have mc2 := mc1.fr f2 (by decide) (by decide) (by decide) (by decide) (by decide)
  have hN2 : N2 ≤ 9594 := Nat.le_trans vp2.1 rl2.2.1
  have hV2 : ∀ o, o < N2 → V2 o ≤ 9594 := fun o ho => Nat.le_trans (voP_V vp2 o ho) rl2.2.1
  refine wp_iconst (v := (-1)) dX12_laysProposed_16 (by decide +kernel) ?_
  refine wp_istore_n (ls1 := [_, _, _, some _, _]) dX12_laysProposed_17 rfl (by decide) rfl ?_
  refine wp_iconst (v := (nI 0)) dX12_laysProposed_18 (by decide +kernel) ?_
  refine wp_istore (ls1 := [_, _, _, _, some _]) dX12_laysProposed_19 (by decide) rfl ?_
  refine prop_loop (f := f) (p := p) hd hf hp hl1 vp2 hN2 hV2 (fun hh3 res f3 mc3 rx3 vo3 hres => ?_) (N2 + 1) 0 none _ (Nat.zero_le _) mc2 rx2 vo2 mFr.rf (fun o ho => by omega) (by omega)
  cases res with
  | some b9 =>
    have rl3 := rl2.fr f3 (by decide) (by decide)
    have hb9 : bstO N2 V2 FK2 (fun o => okO r p f (OL2 o)) b9 := hres
    have hb9l := hb9.1
    show Wp mX12_laysProposed 9 222 117 [some (.ref 153), some (.int (nI p)), some (.int (nI f)), some (.int (nI b9)), some (.int (nI N2))] [] hh3 Q
    refine wp_aload_n dX12_laysProposed_117 rfl rfl ?_
    refine wp_iconst (v := (nI 0)) dX12_laysProposed_118 (by decide +kernel) ?_
    refine wp_putI dX12_laysProposed_119 lX12_337 rfl (Or.inl rfl) (mO mc3.1) rfl rfl ?_
    refine sealI (fun hh4 f4 e4 => ?_)
    have mc4 := mc3.fr f4 (by decide) (by decide) (by decide) (by decide) (by decide)
    have rx4 := rx3.fr f4 (by decide) (by decide)
    have rl4 := rl3.fr f4 (by decide) (by decide)
    have vo4 := vo3.fr f4 (by decide) (by decide)
    refine wp_iload_n dX12_laysProposed_122 rfl rfl ?_
    refine wp_iconst (v := (-1)) dX12_laysProposed_123 (by decide +kernel) ?_
    refine wp_icmp_eq dX12_laysProposed_124 (fun q => absurd q (nI_ne_m1 (by omega))) (fun _ => ?_)
    refine wp_aload_n dX12_laysProposed_127 rfl rfl ?_
    refine wp_iload_n dX12_laysProposed_128 rfl rfl ?_
    refine wp_cV1 0 0 [some _, some _, none, none] dX12_laysProposed_129 tX12_laysParts rfl (by decide) nX12_laysParts vX12_laysParts lX12_536 ⟨by decide, by decide⟩ (Nat.le_of_ble_eq_true rfl) (mO mc4.1) (Nat.le_of_ble_eq_true rfl) rfl ?_
    refine pX12_laysParts mc4.1 vo4 hN2 hb9.1 (opP_srt hd hf (by omega) vp2 hb9.1).2 (fun hh5 f5 k5 => ?_)
    intro _ _
    have mc5 := mc4.fr f5 (by decide) (by decide) (by decide) (by decide) (by decide)
    have rx5 := rx4.fr f5 (by decide) (by decide)
    have rl5 := rl4.fr f5 (by decide) (by decide)
    have vo5 := vo4.fr f5 (by decide) (by decide)
    refine wp_iload_n dX12_laysProposed_132 rfl rfl ?_
    refine wp_iconst (v := (-1)) dX12_laysProposed_133 (by decide +kernel) ?_
    refine wp_icmp_eq dX12_laysProposed_134 (fun q => absurd q (nI_ne_m1 (by omega))) (fun _ => ?_)
    refine wp_iconst (v := (nI 1)) dX12_laysProposed_137 (by decide +kernel) ?_
    refine wp_goto dX12_laysProposed_138 ?_
    refine wp_zreturn dX12_laysProposed_142 rfl (Or.inr rfl) ?_
    exact ht _ _ (((((f1.up (by decide) (by decide)).tr (f2.up (by decide) (by decide))).tr (f3.up (by decide) (by decide))).tr (f4.up (by decide) (by decide))).tr (f5.up (by decide) (by decide))) ⟨N2, OL2, V2, FK2, ⟨n1, K1, rl5.en, vp2, vo5.2.2.2.2⟩, ⟨b9, hb9, rfl⟩⟩ k5 hb9.2.1.1 (opP_srt hd hf (by omega) vp2 hb9.1).1
  | none =>
    have rl3 := rl2.fr f3 (by decide) (by decide)
    show Wp mX12_laysProposed 9 222 117 [some (.ref 153), some (.int (nI p)), some (.int (nI f)), some (.int (-1)), some (.int (nI N2))] [] hh3 Q
    refine wp_aload_n dX12_laysProposed_117 rfl rfl ?_
    refine wp_iconst (v := (nI 0)) dX12_laysProposed_118 (by decide +kernel) ?_
    refine wp_putI dX12_laysProposed_119 lX12_337 rfl (Or.inl rfl) (mO mc3.1) rfl rfl ?_
    refine sealI (fun hh6 f6 e6 => ?_)
    have mc6 := mc3.fr f6 (by decide) (by decide) (by decide) (by decide) (by decide)
    have rx6 := rx3.fr f6 (by decide) (by decide)
    have rl6 := rl3.fr f6 (by decide) (by decide)
    have vo6 := vo3.fr f6 (by decide) (by decide)
    refine wp_iload_n dX12_laysProposed_122 rfl rfl ?_
    refine wp_iconst (v := (-1)) dX12_laysProposed_123 (by decide +kernel) ?_
    refine wp_icmp_eq dX12_laysProposed_124 (fun _ => ?_) (fun q => absurd (by decide +kernel) q)
    refine wp_iload_n dX12_laysProposed_132 rfl rfl ?_
    refine wp_iconst (v := (-1)) dX12_laysProposed_133 (by decide +kernel) ?_
    refine wp_icmp_eq dX12_laysProposed_134 (fun _ => ?_) (fun q => absurd (by decide +kernel) q)
    refine wp_iconst (v := (nI 0)) dX12_laysProposed_141 (by decide +kernel) ?_
    refine wp_zreturn dX12_laysProposed_142 rfl (Or.inl rfl) ?_
    exact hf0 _ ((((f1.up (by decide) (by decide)).tr (f2.up (by decide) (by decide))).tr (f3.up (by decide) (by decide))).tr (f6.up (by decide) (by decide))) ⟨N2, OL2, V2, FK2, ⟨n1, K1, rl6.en, vp2, vo6.2.2.2.2⟩, hres⟩
set_option maxRecDepth 20000 in
theorem pX12_proposed {h : mH} {Q : Option Value → mH → Prop} {r : Nat → Int64} {F : Nat} {pa my : Nat → Int32} {x y i what : Int32} (hc : mC h r F pa my) (hd : sOK r F pa my) (hq : ∀ v h', mFr pwS h h' → spProposed r F pa my x y i what v → Q (some (.int v)) h') : Wp mX12_proposed 10 246 0 [some (.ref 153), some (.int x), some (.int y), some (.int i), some (.int what)] [] h Q := by
  have hF4 := hd.f4
  have hP6 := hd.w.1.2
  refine wp_aload_n dX12_proposed_0 rfl rfl ?_
  refine wp_iload_n dX12_proposed_1 rfl rfl ?_
  refine wp_iload_n dX12_proposed_2 rfl rfl ?_
  refine wp_cV2 2 43 [some _, some _, some _] dX12_proposed_3 tX12_canCut rfl (by decide) nX12_canCut vX12_canCut lX12_485 ⟨by decide, by decide⟩ (Nat.le_of_ble_eq_true rfl) (mO hc.1) (Nat.le_of_ble_eq_true rfl) rfl ?_
  refine pX12_canCut hc hd (fun p1 q1 cn1 ex1 ey1 hp1 hf1 hl1 => ?_) (fun cn1 => ?_)
  · subst ex1
    subst ey1
    intro _ _
    refine wp_if_eq dX12_proposed_6 (fun q => absurd q (by decide +kernel)) (fun _ => ?_)
    refine wp_aload_n dX12_proposed_9 rfl rfl ?_
    refine wp_iload_n dX12_proposed_10 rfl rfl ?_
    refine wp_iload_n dX12_proposed_11 rfl rfl ?_
    refine wp_cV2 9 222 [some _, some _, some _, none, none] dX12_proposed_12 tX12_laysProposed rfl (by decide) nX12_laysProposed vX12_laysProposed lX12_539 ⟨by decide, by decide⟩ (Nat.le_of_ble_eq_true rfl) (mO hc.1) (Nat.le_of_ble_eq_true rfl) rfl ?_
    refine pX12_laysProposed hc hd hf1 (by omega) hl1 (fun hh2 l2 f2 pr2 k2 ne2 sr2 => ?_) (fun hh2 f2 pr2 => ?_)
    · intro _ _
      have mc2 := hc.fr f2 (by decide) (by decide) (by decide) (by decide) (by decide)
      have hk8 := k2.2.1
      refine wp_if_ne dX12_proposed_15 (fun _ => ?_) (fun q => absurd q (by decide +kernel))
      refine wp_iload_n dX12_proposed_20 rfl rfl ?_
      refine wp_iconst (v := (-1)) dX12_proposed_21 (by decide +kernel) ?_
      refine wp_icmp_ne dX12_proposed_22 (fun c3 => ?_) (fun c3 => ?_)
      · refine wp_iload_n dX12_proposed_30 rfl rfl ?_
        refine wp_iconst (v := (nI 0)) dX12_proposed_31 (by decide +kernel) ?_
        refine wp_aload_n dX12_proposed_32 rfl rfl ?_
        refine wp_getIV dX12_proposed_33 lX12_337 rfl (mO mc2.1) k2.1 ?_
        refine wp_iconst (v := (nI 1)) dX12_proposed_36 (by decide +kernel) ?_
        refine wp_isub dX12_proposed_37 ?_
        refine wp_cS3 0 0 [some _, some _, some _] dX12_proposed_38 tX12_isIn sX12_isIn lX12_147 ⟨by decide, by decide⟩ (Nat.le_of_ble_eq_true rfl) (Nat.le_of_ble_eq_true rfl) rfl ?_
        refine pX12_isIn (fun i3 => ?_) (fun i3 => ?_)
        · obtain ⟨j3, hj3, ej3⟩ := (ixN (by omega)).mp i3
          subst ej3
          have xs3 := ix_nI hj3 (by omega)
          intro _ _
          refine wp_if_ne dX12_proposed_41 (fun _ => ?_) (fun q => absurd q (by decide +kernel))
          refine wp_iload dX12_proposed_46 rfl ?_
          refine wp_if_ne dX12_proposed_48 (fun c5 => ?_) (fun c5 => ?_)
          · refine wp_iload dX12_proposed_60 rfl ?_
            refine wp_iconst (v := (nI 1)) dX12_proposed_62 (by decide +kernel) ?_
            refine wp_icmp_ne dX12_proposed_63 (fun c6 => ?_) (fun c6 => ?_)
            · refine wp_iconst (v := (-1)) dX12_proposed_75 (by decide +kernel) ?_
              refine wp_ireturn dX12_proposed_76 rfl ?_
              refine hq _ _ (f2.up (by decide) (by decide)) ?_
              unfold spProposed
              rw [cn1]
              refine ⟨some l2, pr2, ?_⟩
              show _ = partV l2 _ _
              first | exact (partV_a (by assumption)).symm | exact (partV_n (by assumption) xn3).symm | (rw [partV_s (by assumption) xs3]; first | rw [if_pos (by assumption)] | rw [if_neg (by assumption), if_pos (by assumption)] | rw [if_neg (by assumption), if_neg (by assumption)])
            · refine wp_aload_n dX12_proposed_66 rfl rfl ?_
              refine wp_getR dX12_proposed_67 lX12_67 rfl (mO mc2.1) (mR_cutTo mc2.1) ?_
              refine wp_iload_n dX12_proposed_70 rfl rfl ?_
              refine wp_ialdV dX12_proposed_71 (mA_cutTo mc2.1) rfl ⟨by omega, by decide⟩ (k2.2.2 _ (by omega)).2.1 ?_
              refine wp_goto dX12_proposed_72 ?_
              refine wp_ireturn dX12_proposed_76 rfl ?_
              refine hq _ _ (f2.up (by decide) (by decide)) ?_
              unfold spProposed
              rw [cn1]
              refine ⟨some l2, pr2, ?_⟩
              show _ = partV l2 _ _
              first | exact (partV_a (by assumption)).symm | exact (partV_n (by assumption) xn3).symm | (rw [partV_s (by assumption) xs3]; first | rw [if_pos (by assumption)] | rw [if_neg (by assumption), if_pos (by assumption)] | rw [if_neg (by assumption), if_neg (by assumption)])
          · refine wp_aload_n dX12_proposed_51 rfl rfl ?_
            refine wp_getR dX12_proposed_52 lX12_64 rfl (mO mc2.1) (mR_cutFrom mc2.1) ?_
            refine wp_iload_n dX12_proposed_55 rfl rfl ?_
            refine wp_ialdV dX12_proposed_56 (mA_cutFrom mc2.1) rfl ⟨by omega, by decide⟩ (k2.2.2 _ (by omega)).1 ?_
            refine wp_goto dX12_proposed_57 ?_
            refine wp_ireturn dX12_proposed_76 rfl ?_
            refine hq _ _ (f2.up (by decide) (by decide)) ?_
            unfold spProposed
            rw [cn1]
            refine ⟨some l2, pr2, ?_⟩
            show _ = partV l2 _ _
            first | exact (partV_a (by assumption)).symm | exact (partV_n (by assumption) xn3).symm | (rw [partV_s (by assumption) xs3]; first | rw [if_pos (by assumption)] | rw [if_neg (by assumption), if_pos (by assumption)] | rw [if_neg (by assumption), if_neg (by assumption)])
        · have xn3 := ix_none (by omega) (fun j hj ej => i3 ((ixN (by omega)).mpr ⟨j, hj, ej⟩))
          intro _ _
          refine wp_if_ne dX12_proposed_41 (fun q => absurd q (by decide +kernel)) (fun _ => ?_)
          refine wp_iconst (v := (-1)) dX12_proposed_44 (by decide +kernel) ?_
          refine wp_ireturn dX12_proposed_45 rfl ?_
          refine hq _ _ (f2.up (by decide) (by decide)) ?_
          unfold spProposed
          rw [cn1]
          refine ⟨some l2, pr2, ?_⟩
          show _ = partV l2 _ _
          first | exact (partV_a (by assumption)).symm | exact (partV_n (by assumption) xn3).symm | (rw [partV_s (by assumption) xs3]; first | rw [if_pos (by assumption)] | rw [if_neg (by assumption), if_pos (by assumption)] | rw [if_neg (by assumption), if_neg (by assumption)])
      · refine wp_aload_n dX12_proposed_25 rfl rfl ?_
        refine wp_getIV dX12_proposed_26 lX12_337 rfl (mO mc2.1) k2.1 ?_
        refine wp_ireturn dX12_proposed_29 rfl ?_
        refine hq _ _ (f2.up (by decide) (by decide)) ?_
        unfold spProposed
        rw [cn1]
        refine ⟨some l2, pr2, ?_⟩
        show _ = partV l2 _ _
        first | exact (partV_a (by assumption)).symm | exact (partV_n (by assumption) xn3).symm | (rw [partV_s (by assumption) xs3]; first | rw [if_pos (by assumption)] | rw [if_neg (by assumption), if_pos (by assumption)] | rw [if_neg (by assumption), if_neg (by assumption)])
    · intro _ _
      have mc2 := hc.fr f2 (by decide) (by decide) (by decide) (by decide) (by decide)
      refine wp_if_ne dX12_proposed_15 (fun q => absurd q (by decide +kernel)) (fun _ => ?_)
      refine wp_iconst (v := (-1)) dX12_proposed_18 (by decide +kernel) ?_
      refine wp_ireturn dX12_proposed_19 rfl ?_
      refine hq _ _ (f2.up (by decide) (by decide)) ?_
      unfold spProposed
      rw [cn1]
      exact ⟨none, pr2, rfl⟩
  · intro _ _
    refine wp_if_eq dX12_proposed_6 (fun _ => ?_) (fun q => absurd q (by decide +kernel))
    refine wp_iconst (v := (-1)) dX12_proposed_18 (by decide +kernel) ?_
    refine wp_ireturn dX12_proposed_19 rfl ?_
    refine hq _ _ mFr.rf ?_
    unfold spProposed
    rw [cn1]
set_option maxRecDepth 20000 in
theorem next_loop {h : mH} {Q : Option Value → mH → Prop} {r : Nat → Int64} {F : Nat} {pa my : Nat → Int32} {f n : Nat} {K O : Nat → Nat} (hd : sOK r F pa my) (hf : f < F) (K9 : ∀ h' NN (res : Option Nat), mFr (mP [24, 32, 35, 50, 60, 61, 62] [163, 164, 165, 167, 168, 169, 170, 182, 185, 186, 187, 188, 189]) h h' → (∀ q, q < rP r → rM r f q = 0 → ∃ OL V FK, opP r pa my q f (NN q) OL V FK) → nxP r pa my f (rP r) NN res → Q (some (.int (match res with | some b => nI b | none => -1))) h') : ∀ (t9 p : Nat) (NN : Nat → Nat) (res : Option Nat) (most : Nat) (h1 : mH), p ≤ rP r → mC h1 r F pa my → ruL h1 r pa my f (exE r f) n K O → mFr (mP [24, 32, 35, 50, 60, 61, 62] [163, 164, 165, 167, 168, 169, 170, 182, 185, 186, 187, 188, 189]) h h1 → (∀ q, q < p → rM r f q = 0 → ∃ OL V FK, opP r pa my q f (NN q) OL V FK) → nxP r pa my f p NN res → (match res with | some b => most = NN b | none => most = 0) → rP r < p + t9 → Wp mX12_next 9 222 27 [some (.ref 153), some (.int (nI f)), some (.int (match res with | some b => nI b | none => -1)), some (.int (nI most)), some (.int (nI p))] [] h1 Q := by
  have hF4 := hd.f4
  have hP6 := hd.w.1.2
  intro t9
  induction t9 with
  | zero => intros; omega
  | succ t9 ih =>
    intro p NN res most h1 hpp hc1 rl1 hf1 hop hb hmost hmz
    cases res with
    | some b =>
      have hb : b < p ∧ rM r f b = 0 ∧ ∀ q, q < p → rM r f q = 0 → NN q < NN b ∨ (NN q = NN b ∧ b ≤ q) := hb
      have hbi := hb.1
      have hNb : most ≤ 9594 := by
        have h8 : most = NN b := hmost
        obtain ⟨OL, V, FK, n9, K9, e9, v9, _⟩ := hop b hb.1 hb.2.1
        have := v9.1
        have := e9.1
        omega
      show Wp mX12_next 9 222 27 [some (.ref 153), some (.int (nI f)), some (.int (nI b)), some (.int (nI most)), some (.int (nI p))] [] h1 Q
      refine wp_iload dX12_next_27 rfl ?_
      refine wp_aload_n dX12_next_29 rfl rfl ?_
      refine wp_cV0 0 0 [some _] dX12_next_30 tX12_pages rfl (by decide) nX12_pages vX12_pages lX12_255 ⟨by decide, by decide⟩ (Nat.le_of_ble_eq_true rfl) (mO hc1.1) (Nat.le_of_ble_eq_true rfl) rfl ?_
      refine pX12_pages' hc1 hd ?_
      intro _ _
      refine wp_icmp_geN dX12_next_33 rfl rfl ⟨by omega, by omega⟩ (fun c1 => ?_) (fun c1 => ?_)
      · refine wp_iload_n dX12_next_86 rfl rfl ?_
        refine wp_ireturn dX12_next_87 rfl ?_
        have e9 : p = rP r := by omega
        subst e9
        exact K9 _ NN (some b) hf1 hop hb
      · refine wp_aload_n dX12_next_36 rfl rfl ?_
        refine wp_iload_n dX12_next_37 rfl rfl ?_
        refine wp_iload dX12_next_38 rfl ?_
        refine wp_cV2 1 21 [some _, some _, some _] dX12_next_40 tX12_partsOf rfl (by decide) nX12_partsOf vX12_partsOf lX12_302 ⟨by decide, by decide⟩ (Nat.le_of_ble_eq_true rfl) (mO hc1.1) (Nat.le_of_ble_eq_true rfl) rfl ?_
        refine pX12_partsOf' hc1 hd (by omega) (by omega) ?_
        intro _ _
        refine wp_if_leN dX12_next_43 rfl (by have h9 := (hd.w.2.2 f p (by omega) (by omega)).1.2; omega) (fun c2 => ?_) (fun c2 => ?_)
        · refine wp_aload_n dX12_next_49 rfl rfl ?_
          refine wp_iload dX12_next_50 rfl ?_
          refine wp_iload_n dX12_next_52 rfl rfl ?_
          refine wp_cV2 8 198 [some _, some _, some _, none, none] dX12_next_53 tX12_laysVotes rfl (by decide) nX12_laysVotes vX12_laysVotes lX12_526 ⟨by decide, by decide⟩ (Nat.le_of_ble_eq_true rfl) (mO hc1.1) (Nat.le_of_ble_eq_true rfl) rfl ?_
          refine pX12_laysVotes hc1 hd (by omega) (by omega) rl1 (fun hh1 N1 OL1 V1 FK1 T1 f1 rl1 rx1 vo1 vp1 => ?_)
          intro _ _
          have mc1 := hc1.fr f1 (by decide) (by decide) (by decide) (by decide) (by decide)
          have hN1 : N1 ≤ 9594 := Nat.le_trans vp1.1 rl1.2.1
          have hV1 : ∀ o, o < N1 → V1 o ≤ 9594 := fun o ho => Nat.le_trans (voP_V vp1 o ho) rl1.2.1
          refine wp_iload_n dX12_next_56 rfl rfl ?_
          refine wp_iconst (v := (-1)) dX12_next_57 (by decide +kernel) ?_
          refine wp_icmp_eq dX12_next_58 (fun q => absurd q (nI_ne_m1 (by omega))) (fun _ => ?_)
          refine wp_aload_n dX12_next_61 rfl rfl ?_
          refine wp_getIV dX12_next_62 lX12_517 rfl (mO mc1.1) vo1.1 ?_
          refine wp_iload_n dX12_next_65 rfl rfl ?_
          refine wp_icmp_gtN dX12_next_66 rfl rfl ⟨by omega, by have := hNb; omega⟩ (fun c4 => ?_) (fun c4 => ?_)
          · refine wp_iload dX12_next_72 rfl ?_
            refine wp_istore_n (ls1 := [_, _, some _, _, _]) dX12_next_74 rfl (by decide) rfl ?_
            refine wp_aload_n dX12_next_75 rfl rfl ?_
            refine wp_getIV dX12_next_76 lX12_517 rfl (mO mc1.1) vo1.1 ?_
            refine wp_istore_n (ls1 := [_, _, _, some _, _]) dX12_next_79 rfl (by decide) rfl ?_
            refine wp_iinc1 (ls1 := [_, _, _, _, some _]) dX12_next_80 rfl (by decide) rfl ?_
            refine wp_goto dX12_next_83 ?_
            refine ih (p + 1) (upN NN p N1) (some p) _ _ (by omega) mc1 rl1 ((hf1.up (by decide) (by decide)).tr (f1.up (by decide) (by decide))) ?_ ?_ (upN_at _ _ _).symm (by omega)
            · intro q hq hm
              by_cases e9 : q = p
              · subst e9
                rw [upN_at]
                exact ⟨OL1, V1, FK1, n, K, rl1.en, vp1, vo1.2.2.2.2⟩
              · rw [upN_ne e9]; exact hop q (by omega) hm
            · refine ⟨by omega, by omega, fun q hq hm => ?_⟩
              by_cases e9 : q = p
              · subst e9; exact Or.inr ⟨rfl, Nat.le_refl _⟩
              · rw [upN_at, upN_ne e9]
                have h9 := hb.2.2 q (by omega) hm
                have h8 : most = NN b := hmost
                left
                omega
          · refine wp_goto dX12_next_69 ?_
            refine wp_iinc1 (ls1 := [_, _, _, _, some _]) dX12_next_80 rfl (by decide) rfl ?_
            refine wp_goto dX12_next_83 ?_
            refine ih (p + 1) (upN NN p N1) (some b) _ _ (by omega) mc1 rl1 ((hf1.up (by decide) (by decide)).tr (f1.up (by decide) (by decide))) ?_ ?_ (hmost.trans (upN_ne (by omega)).symm) (by omega)
            · intro q hq hm
              by_cases e9 : q = p
              · subst e9
                rw [upN_at]
                exact ⟨OL1, V1, FK1, n, K, rl1.en, vp1, vo1.2.2.2.2⟩
              · rw [upN_ne e9]; exact hop q (by omega) hm
            · refine ⟨by omega, hb.2.1, fun q hq hm => ?_⟩
              rw [upN_ne (show b ≠ p by omega)]
              by_cases e9 : q = p
              · subst e9; rw [upN_at]; have h8 : most = NN b := hmost; omega
              · rw [upN_ne e9]; exact hb.2.2 q (by omega) hm
        · refine wp_goto dX12_next_46 ?_
          refine wp_iinc1 (ls1 := [_, _, _, _, some _]) dX12_next_80 rfl (by decide) rfl ?_
          refine wp_goto dX12_next_83 ?_
          refine ih (p + 1) NN (some b) _ _ (by omega) hc1 rl1 (hf1.up (by decide) (by decide)) ?_ ?_ hmost (by omega)
          · intro q hq hm
            by_cases e9 : q = p
            · subst e9; omega
            · exact hop q (by omega) hm
          · refine ⟨by omega, hb.2.1, fun q hq hm => ?_⟩
            by_cases e9 : q = p
            · subst e9; omega
            · exact hb.2.2 q (by omega) hm
    | none =>
      have hb : ∀ q, q < p → 0 < rM r f q := hb
      have hmost : most = 0 := hmost
      show Wp mX12_next 9 222 27 [some (.ref 153), some (.int (nI f)), some (.int (-1)), some (.int (nI most)), some (.int (nI p))] [] h1 Q
      refine wp_iload dX12_next_27 rfl ?_
      refine wp_aload_n dX12_next_29 rfl rfl ?_
      refine wp_cV0 0 0 [some _] dX12_next_30 tX12_pages rfl (by decide) nX12_pages vX12_pages lX12_255 ⟨by decide, by decide⟩ (Nat.le_of_ble_eq_true rfl) (mO hc1.1) (Nat.le_of_ble_eq_true rfl) rfl ?_
      refine pX12_pages' hc1 hd ?_
      intro _ _
      refine wp_icmp_geN dX12_next_33 rfl rfl ⟨by omega, by omega⟩ (fun c1 => ?_) (fun c1 => ?_)
      · refine wp_iload_n dX12_next_86 rfl rfl ?_
        refine wp_ireturn dX12_next_87 rfl ?_
        have e9 : p = rP r := by omega
        subst e9
        exact K9 _ NN none hf1 hop hb
      · refine wp_aload_n dX12_next_36 rfl rfl ?_
        refine wp_iload_n dX12_next_37 rfl rfl ?_
        refine wp_iload dX12_next_38 rfl ?_
        refine wp_cV2 1 21 [some _, some _, some _] dX12_next_40 tX12_partsOf rfl (by decide) nX12_partsOf vX12_partsOf lX12_302 ⟨by decide, by decide⟩ (Nat.le_of_ble_eq_true rfl) (mO hc1.1) (Nat.le_of_ble_eq_true rfl) rfl ?_
        refine pX12_partsOf' hc1 hd (by omega) (by omega) ?_
        intro _ _
        refine wp_if_leN dX12_next_43 rfl (by have h9 := (hd.w.2.2 f p (by omega) (by omega)).1.2; omega) (fun c2 => ?_) (fun c2 => ?_)
        · refine wp_aload_n dX12_next_49 rfl rfl ?_
          refine wp_iload dX12_next_50 rfl ?_
          refine wp_iload_n dX12_next_52 rfl rfl ?_
          refine wp_cV2 8 198 [some _, some _, some _, none, none] dX12_next_53 tX12_laysVotes rfl (by decide) nX12_laysVotes vX12_laysVotes lX12_526 ⟨by decide, by decide⟩ (Nat.le_of_ble_eq_true rfl) (mO hc1.1) (Nat.le_of_ble_eq_true rfl) rfl ?_
          refine pX12_laysVotes hc1 hd (by omega) (by omega) rl1 (fun hh1 N1 OL1 V1 FK1 T1 f1 rl1 rx1 vo1 vp1 => ?_)
          intro _ _
          have mc1 := hc1.fr f1 (by decide) (by decide) (by decide) (by decide) (by decide)
          have hN1 : N1 ≤ 9594 := Nat.le_trans vp1.1 rl1.2.1
          have hV1 : ∀ o, o < N1 → V1 o ≤ 9594 := fun o ho => Nat.le_trans (voP_V vp1 o ho) rl1.2.1
          refine wp_iload_n dX12_next_56 rfl rfl ?_
          refine wp_iconst (v := (-1)) dX12_next_57 (by decide +kernel) ?_
          refine wp_icmp_eq dX12_next_58 (fun _ => ?_) (fun q => absurd (by decide +kernel) q)
          refine wp_iload dX12_next_72 rfl ?_
          refine wp_istore_n (ls1 := [_, _, some _, _, _]) dX12_next_74 rfl (by decide) rfl ?_
          refine wp_aload_n dX12_next_75 rfl rfl ?_
          refine wp_getIV dX12_next_76 lX12_517 rfl (mO mc1.1) vo1.1 ?_
          refine wp_istore_n (ls1 := [_, _, _, some _, _]) dX12_next_79 rfl (by decide) rfl ?_
          refine wp_iinc1 (ls1 := [_, _, _, _, some _]) dX12_next_80 rfl (by decide) rfl ?_
          refine wp_goto dX12_next_83 ?_
          refine ih (p + 1) (upN NN p N1) (some p) _ _ (by omega) mc1 rl1 ((hf1.up (by decide) (by decide)).tr (f1.up (by decide) (by decide))) ?_ ?_ (upN_at _ _ _).symm (by omega)
          · intro q hq hm
            by_cases e9 : q = p
            · subst e9
              rw [upN_at]
              exact ⟨OL1, V1, FK1, n, K, rl1.en, vp1, vo1.2.2.2.2⟩
            · rw [upN_ne e9]; exact hop q (by omega) hm
          · refine ⟨by omega, by omega, fun q hq hm => ?_⟩
            by_cases e9 : q = p
            · subst e9; exact Or.inr ⟨rfl, Nat.le_refl _⟩
            · rw [upN_at, upN_ne e9]
              exact absurd hm (by have := hb q (by omega); omega)
        · refine wp_goto dX12_next_46 ?_
          refine wp_iinc1 (ls1 := [_, _, _, _, some _]) dX12_next_80 rfl (by decide) rfl ?_
          refine wp_goto dX12_next_83 ?_
          refine ih (p + 1) NN none _ _ (by omega) hc1 rl1 (hf1.up (by decide) (by decide)) ?_ ?_ hmost (by omega)
          · intro q hq hm
            by_cases e9 : q = p
            · subst e9; omega
            · exact hop q (by omega) hm
          · intro q hq
            by_cases e9 : q = p
            · subst e9; omega
            · exact hb q (by omega)
set_option maxRecDepth 20000 in
theorem pX12_next {h : mH} {Q : Option Value → mH → Prop} {r : Nat → Int64} {F : Nat} {pa my : Nat → Int32} {x : Int32} (hc : mC h r F pa my) (hd : sOK r F pa my) (hq : ∀ v h', mFr pwS h h' → spNext r F pa my x v → Q (some (.int v)) h') : Wp mX12_next 9 222 0 [some (.ref 153), some (.int x), none, none, none] [] h Q := by
  have hF4 := hd.f4
  have hP6 := hd.w.1.2
  refine wp_aload_n dX12_next_0 rfl rfl ?_
  refine wp_iload_n dX12_next_1 rfl rfl ?_
  refine wp_cV1 1 22 [some _, some _] dX12_next_2 tX12_isField rfl (by decide) nX12_isField vX12_isField lX12_299 ⟨by decide, by decide⟩ (Nat.le_of_ble_eq_true rfl) (mO hc.1) (Nat.le_of_ble_eq_true rfl) rfl ?_
  refine pX12_isField' hc hd (fun j1 hj1 ej1 => ?_) (fun nj1 => ?_)
  · subst ej1
    have xs1 := ix_nI hj1 (by omega)
    intro _ _
    refine wp_if_ne dX12_next_5 (fun _ => ?_) (fun q => absurd q (by decide +kernel))
    refine wp_aload_n dX12_next_10 rfl rfl ?_
    refine wp_iload_n dX12_next_11 rfl rfl ?_
    refine wp_aload_n dX12_next_12 rfl rfl ?_
    refine wp_iload_n dX12_next_13 rfl rfl ?_
    refine wp_cV1 2 43 [some _, some _, none, none] dX12_next_14 tX12_examples rfl (by decide) nX12_examples vX12_examples lX12_407 ⟨by decide, by decide⟩ (Nat.le_of_ble_eq_true rfl) (mO hc.1) (Nat.le_of_ble_eq_true rfl) rfl ?_
    refine pX12_examplesN hc hd (by omega) ?_
    intro _ _
    refine wp_cV2 6 153 [some _, some _, some _, none, none, none] dX12_next_17 tX12_laysRules rfl (by decide) nX12_laysRules vX12_laysRules lX12_410 ⟨by decide, by decide⟩ (Nat.le_of_ble_eq_true rfl) (mO hc.1) (Nat.le_of_ble_eq_true rfl) rfl ?_
    refine pX12_laysRules hc hd (by omega) (exE_lt hd) (fun p hp => exE_tb hp) (fun hh2 n2 K2 O2 f2 nx2 rl2 => ?_)
    intro _ _
    have mc2 := hc.fr f2 (by decide) (by decide) (by decide) (by decide) (by decide)
    refine wp_iconst (v := (-1)) dX12_next_20 (by decide +kernel) ?_
    refine wp_istore_n (ls1 := [_, _, some _, _, _]) dX12_next_21 rfl (by decide) rfl ?_
    refine wp_iconst (v := (nI 0)) dX12_next_22 (by decide +kernel) ?_
    refine wp_istore_n (ls1 := [_, _, _, some _, _]) dX12_next_23 rfl (by decide) rfl ?_
    refine wp_iconst (v := (nI 0)) dX12_next_24 (by decide +kernel) ?_
    refine wp_istore (ls1 := [_, _, _, _, some _]) dX12_next_25 (by decide) rfl ?_
    refine next_loop (f := j1) hd (by omega) (fun hh NN res f9 hop hn => ?_) (rP r + 1) 0 (fun _ => 0) none 0 _ (Nat.zero_le _) mc2 rl2 mFr.rf (fun q hq => by omega) (fun q hq => by omega) rfl (by omega)
    refine hq _ _ ((f2.up (by decide) (by decide)).tr (f9.up (by decide) (by decide))) ?_
    unfold spNext
    rw [xs1]
    exact ⟨NN, res, hop, hn, rfl⟩
  · have xn1 := ix_none (by omega) nj1
    intro _ _
    refine wp_if_ne dX12_next_5 (fun q => absurd q (by decide +kernel)) (fun _ => ?_)
    refine wp_iconst (v := (-1)) dX12_next_8 (by decide +kernel) ?_
    refine wp_ireturn dX12_next_9 rfl ?_
    refine hq _ _ mFr.rf ?_
    unfold spNext
    rw [xn1]
