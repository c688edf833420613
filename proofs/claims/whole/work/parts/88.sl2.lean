/-! ===== a page is cut ===== -/
/-- the region in which a field of a page is looked for -/
def rgC (r : Nat → Int64) (pa my : Nat → Int32) (p : Nat) (but : Int32) (j a e : Nat) : Prop := (pa j = -1 ∧ a = 0 ∧ e = (rowL but (rT r p)).length) ∨ ∃ g x, pa j = nI g ∧ g < j ∧ cuX r pa my p but g = some x ∧ a = (hd2 x.2).1 ∧ e = (hd2 x.2).2
theorem rgC_cu {r : Nat → Int64} {F : Nat} {pa my : Nat → Int32} {p j a e : Nat} {but : Int32} (hd : sOK r F pa my) (hj : j < F) (h : rgC r pa my p but j a e) : cuX r pa my p but j = cbX r my j (pmR r p but) a e ∧ a ≤ e ∧ e ≤ (rowL but (rT r p)).length := by
  have hF4 := hd.f4
  rcases h with ⟨e1, rfl, rfl⟩ | ⟨g, x, e1, hg, e2, rfl, rfl⟩
  · exact ⟨crX_top e1, Nat.zero_le _, Nat.le_refl _⟩
  · have h1 : cuX r pa my p but j = match cuX r pa my p but g with | none => none | some x => cbX r my j (pmR r p but) (hd2 x.2).1 (hd2 x.2).2 := crX_par hd hj hg e1
    rw [e2] at h1
    have h2 := cuX_ok hd (show g < F by omega) x e2
    have h3 : hd2 x.2 ∈ x.2 := by
      unfold hd2
      cases z : x.2 with
      | nil => exact absurd z h2.2
      | cons q t => exact List.mem_cons_self
    have h4 := h2.1 _ h3
    exact ⟨h1, by omega, h4.2⟩
theorem cu_low {l : List (Nat × Nat)} {n : Nat} (h : srt l n) (hn : n < 63) (h0 : l ≠ []) : lwB (bsA l) = (hd2 l).1 ∧ lwB (bsE l) = (hd2 l).2 := by
  have h1 := srt_asc h hn
  cases l with
  | nil => exact absurd rfl h0
  | cons q t => exact ⟨bsN_low h1.1, bsN_low h1.2⟩
theorem cuB_m1 {x : Option (Nat × List (Nat × Nat))} (hx : ∀ y, x = some y → y.1 < 1000) : cuB x = -1 ↔ x = none := by
  cases x with
  | none => exact ⟨fun _ => rfl, fun _ => rfl⟩
  | some y => exact ⟨fun z => absurd z (nI_ne_m1 (by have := hx y rfl; omega)), fun z => by cases z⟩
theorem cuX_lt {r : Nat → Int64} {F : Nat} {pa my : Nat → Int32} {p f : Nat} {but : Int32} (hd : sOK r F pa my) (hf : f < F) (x : Nat × List (Nat × Nat)) (h : cuX r pa my p but f = some x) : x.1 < 6 := by
  have hF4 := hd.f4
  have hl := (hd.ln f (by omega)).2
  rcases hd.par f hf with e | ⟨g, hg, e, _⟩
  · have h1 : cuX r pa my p but f = _ := crX_top e
    rw [h1] at h
    have := (cbX_some h).1
    omega
  · have h1 : cuX r pa my p but f = match cuX r pa my p but g with | none => none | some x => cbX r my f (pmR r p but) (hd2 x.2).1 (hd2 x.2).2 := crX_par hd hf hg e
    rw [h1] at h
    cases z : cuX r pa my p but g with
    | none => rw [z] at h; cases h
    | some y =>
      rw [z] at h
      have := (cbX_some h).1
      omega
set_option maxRecDepth 20000 in
theorem pX11_slicePage {h : mH} {Q : Option Value → mH → Prop} {ow : Nat → Nat} {F fa o1 d1 u1 : Nat} {pa my : Nat → Int32} {r : Nat → Int64} {pl : Nat → Int64} {gb ge : Int32} {gs gn : Int64} {gf gt : Int32} {p f : Nat} {but : Int32} (e9 : eS ow h F pa my r fa o1 d1 u1) (hd : sOK r F pa my) (zg : zG ow h pl gb ge gs gn gf gt) (hp : p < rP r) (hf : f < F) (hq : ∀ h' pl' gb ge gf gt v, cFr [1] 0 ow h ow h' → zG ow h' pl' gb ge (lN (bsA (cuL (cuX r pa my p but f)))) (lN (bsE (cuL (cuX r pa my p but f)))) gf gt → gP pl' (pmR r p but) (rowL but (rT r p)).length → cuB (cuX r pa my p but f) = v → Q (some (.int v)) h') : Wp mX11_slicePage 5 119 0 [some (.ref 0), some (.int (nI p)), some (.int (nI f)), some (.int but), none, none, none, none] [] h Q := by
  have hP6 := hd.w.1.2
  have hF4 := hd.f4
  have hT40 := (hd.w.2.1 p (by omega)).2
  have hl40 : (rowL but (rT r p)).length ≤ 40 := Nat.le_trans (rowL_len _ _) hT40
  have hloop : ∀  (t9 : Nat) (i : Nat) (a : Nat) (e : Nat) (gs1 : Int64) (gn1 : Int64) (gf1 : Int32) (gt1 : Int32) (by1 : Int32) (pl1 : Nat → Int64) (h1 : mH), (i ≤ f + 1) → (cFr [1] 0 ow h ow h1) → (eS ow h1 F pa my r fa o1 d1 u1) → (zG ow h1 pl1 (nI a) (nI e) gs1 gn1 gf1 gt1) → (gP pl1 (pmR r p but) (rowL but (rT r p)).length) → (∀ j, i ≤ j → und pa f j = true → (∀ m, i ≤ m → m < j → und pa f m = false) → rgC r pa my p but j a e) → (i = f + 1 → gs1 = lN (bsA (cuL (cuX r pa my p but f))) ∧ gn1 = lN (bsE (cuL (cuX r pa my p but f))) ∧ by1 = cuB (cuX r pa my p but f)) → (f + 1 < i + t9) → Wp mX11_slicePage 5 119 39 [some (.ref 0), some (.int (nI p)), some (.int (nI f)), some (.int but), some (.ref (nowA o1 d1)), some (.int (nI (chF pa 4 f))), some (.int by1), some (.int (nI i))] [] h1 Q := by
    intro t9
    induction t9 with
    | zero => intros; omega
    | succ t9 ih =>
      intro i a e gs1 gn1 gf1 gt1 by1 pl1 h1 hi1 hf1 e1 zg1 hP1 hrg hfin hmz
      refine wp_iload dX11_slicePage_39 rfl ?_
      refine wp_iload_n dX11_slicePage_41 rfl rfl ?_
      refine wp_icmp_gtN dX11_slicePage_42 rfl rfl ⟨by omega, by omega⟩ (fun c2 => ?_) (fun c2 => ?_)
      · refine wp_iload dX11_slicePage_129 rfl ?_
        refine wp_ireturn dX11_slicePage_131 rfl ?_
        have ei9 : i = f + 1 := by omega
        obtain ⟨k1, k2, k3⟩ := hfin ei9
        subst k1 k2
        exact hq _ _ _ _ _ _ _ (hf1.up (by decide) (Nat.le_refl _)) zg1 hP1 k3.symm
      · refine wp_iload dX11_slicePage_45 rfl ?_
        refine wp_iload dX11_slicePage_47 rfl ?_
        refine wp_ishr dX11_slicePage_49 ?_
        refine wp_iconst (v := (nI 1)) dX11_slicePage_50 (by decide +kernel) ?_
        refine wp_iand dX11_slicePage_51 ?_
        rw [bitI (by have := chF_lt hd 4 f hf; omega) (by omega), chF_tb]
        by_cases hu : und pa f i = true
        · rw [if_pos (show undF pa 4 f i = true from hu)]
          refine wp_if_eq dX11_slicePage_52 (fun q => absurd q (by decide +kernel)) (fun _ => ?_)
          have hi := und_le hd f i hf hu
          have hrg := hrg i (Nat.le_refl _) hu (fun m h1 h2 => by omega)
          obtain ⟨ecu, hae⟩ := rgC_cu hd (by omega) hrg
          refine wp_aload_n dX11_slicePage_55 rfl rfl ?_
          refine wp_getR dX11_slicePage_56 lX11_60 rfl e1.oo e1.r10 ?_
          refine wp_aload dX11_slicePage_59 rfl ?_
          refine wp_getR dX11_slicePage_61 lX11_143 rfl e1.st.oo e1.st.r1 ?_
          refine wp_iload dX11_slicePage_64 rfl ?_
          rcases e1.st.ln (f := i) (by omega) with ⟨hl1, q1, eq1, ln1⟩ | ⟨hl1, eq1⟩
          · refine wp_aaldJ dX11_slicePage_66 e1.st.a1 (by decide) (by decide) rfl ⟨by omega, by omega⟩ eq1 ?_
            refine wp_aload_n dX11_slicePage_67 rfl rfl ?_
            refine wp_getR dX11_slicePage_68 lX11_20 rfl e1.oo e1.f4 ?_
            refine wp_getR dX11_slicePage_71 lX11_150 rfl e1.fl.oo e1.fl.r2 ?_
            refine wp_iload dX11_slicePage_74 rfl ?_
            refine wp_zaldV dX11_slicePage_76 e1.fl.a2 rfl ⟨by omega, by omega⟩ (e1.fl.c2 (by omega)) ?_
            refine wp_cV2 4 95 [some _, some _, some _, none, none] dX11_slicePage_77 tX2_sliceBy rfl (by decide) nX2_sliceBy vX2_sliceBy lX11_368 ⟨by decide, by decide⟩ (Nat.le_of_ble_eq_true rfl) zg1.o (Nat.le_of_ble_eq_true rfl) rfl ?_
            refine pX2_sliceBy zg1 hP1 hae.2 hl40 hae.1 hd (by omega) ln1 (fun hh2 x2 y2 f2 zg_2 => ?_)
            intro _ _
            have e1_2 := e1.fr f2 (by decide)
            have ln1_2 := ln1.fr f2 (rnS (by omega) rn0)
            refine wp_istore (ls1 := [_, _, _, _, _, _, some _, _]) dX11_slicePage_80 (by decide) rfl ?_
            refine wp_iload dX11_slicePage_82 rfl ?_
            refine wp_iconst (v := (-1)) dX11_slicePage_84 (by decide +kernel) ?_
            rw [← ecu]
            have zg9 := zg_2
            rw [← ecu] at zg9
            cases ecx : cuX r pa my p but i with
            | none =>
              rw [ecx] at zg9
              refine wp_icmp_ne dX11_slicePage_85 (fun q => absurd rfl q) (fun _ => ?_)
              refine wp_iconst (v := (-1)) dX11_slicePage_88 (by decide +kernel) ?_
              refine wp_ireturn dX11_slicePage_89 rfl ?_
              have en9 : cuX r pa my p but f = none := cu_und hd f i hf hu ecx
              exact hq _ _ _ _ _ _ _ ((hf1.up (by decide) (Nat.le_refl _)).tr (f2.up (by decide) (Nat.le_refl _))) (by rw [en9]; exact zg9) hP1 (by rw [en9]; rfl)
            | some x =>
              rw [ecx] at zg9
              have hx9 := cuX_ok hd (show i < F by omega) x ecx
              have hb9 := cuX_lt hd (show i < F by omega) x ecx
              have sr9 := srt_cu (but := but) (p := p) hd (show i < F by omega)
              rw [ecx] at sr9
              refine wp_icmp_ne dX11_slicePage_85 (fun _ => ?_) (fun q => absurd q (nI_ne_m1 (by omega)))
              refine wp_iload dX11_slicePage_90 rfl ?_
              refine wp_iload_n dX11_slicePage_92 rfl rfl ?_
              refine wp_icmp_geN dX11_slicePage_93 rfl rfl ⟨by omega, by omega⟩ (fun c6 => ?_) (fun c6 => ?_)
              · refine wp_iinc1 (ls1 := [_, _, _, _, _, _, _, some _]) dX11_slicePage_123 rfl (by decide) rfl ?_
                refine wp_goto dX11_slicePage_126 ?_
                have ei9 : i = f := by omega
                subst ei9
                exact ih (i + 1) _ _ _ _ _ _ _ _ _ (by omega) ((hf1.up (by decide) (Nat.le_refl _)).tr (f2.up (by decide) (Nat.le_refl _))) e1_2 zg9 hP1 (fun j h1 h2 h3 => absurd (und_le hd i j hf h2) (by omega)) (fun _ => ⟨by rw [ecx], by rw [ecx], by rw [ecx]⟩) (by omega)
              · refine wp_aload_n dX11_slicePage_96 rfl rfl ?_
                refine wp_getR dX11_slicePage_97 lX11_60 rfl e1_2.oo e1_2.r10 ?_
                refine wp_aload_n dX11_slicePage_100 rfl rfl ?_
                refine wp_getR dX11_slicePage_101 lX11_60 rfl e1_2.oo e1_2.r10 ?_
                refine wp_getLV dX11_slicePage_104 lX11_339 rfl zg9.o zg9.f3 ?_
                refine wp_cS1 1 21 [some _, none] dX11_slicePage_107 tX11_lowest sX11_lowest lX11_227 ⟨by decide, by decide⟩ (Nat.le_of_ble_eq_true rfl) (Nat.le_of_ble_eq_true rfl) rfl ?_
                refine pX11_lowest (bs_lt sr9 (show (rowL but (rT r p)).length < 63 by omega)).1 ?_
                intro _ _
                rw [(cu_low sr9 (show (rowL but (rT r p)).length < 63 by omega) hx9.2).1]
                refine wp_aload_n dX11_slicePage_110 rfl rfl ?_
                refine wp_getR dX11_slicePage_111 lX11_60 rfl e1_2.oo e1_2.r10 ?_
                refine wp_getLV dX11_slicePage_114 lX11_342 rfl zg9.o zg9.f4 ?_
                refine wp_cS1 1 21 [some _, none] dX11_slicePage_117 tX11_lowest sX11_lowest lX11_227 ⟨by decide, by decide⟩ (Nat.le_of_ble_eq_true rfl) (Nat.le_of_ble_eq_true rfl) rfl ?_
                refine pX11_lowest (bs_lt sr9 (show (rowL but (rT r p)).length < 63 by omega)).2 ?_
                intro _ _
                rw [(cu_low sr9 (show (rowL but (rT r p)).length < 63 by omega) hx9.2).2]
                refine wp_cV2 0 0 [some _, some _, some _] dX11_slicePage_120 tX2_within rfl (by decide) nX2_within vX2_within lX11_419 ⟨by decide, by decide⟩ (Nat.le_of_ble_eq_true rfl) zg9.o (Nat.le_of_ble_eq_true rfl) rfl ?_
                refine pX2_within zg9 (fun hh3 f3 zg_3 => ?_)
                intro _ _
                have e1_3 := e1_2.fr f3 (by decide)
                have ln1_3 := ln1_2.fr f3 (rnS (by omega) rn0)
                refine wp_iinc1 (ls1 := [_, _, _, _, _, _, _, some _]) dX11_slicePage_123 rfl (by decide) rfl ?_
                refine wp_goto dX11_slicePage_126 ?_
                refine ih (i + 1) _ _ _ _ _ _ _ _ _ (by omega) (((hf1.up (by decide) (Nat.le_refl _)).tr (f2.up (by decide) (Nat.le_refl _))).tr (f3.up (by decide) (Nat.le_refl _))) e1_3 zg_3 hP1 (fun j h1 h2 h3 => ?_) (fun z => absurd z (by omega)) (by omega)
                obtain ⟨j9, k1, k2, k3, k4⟩ := und_kid hd f i hf hu (by omega)
                have ej : j = j9 := by
                  rcases Nat.lt_trichotomy j j9 with c | c | c
                  · exact absurd h2 (by rw [k4 j (by omega) c]; decide)
                  · exact c
                  · exact absurd k2 (by rw [h3 j9 (by omega) c]; decide)
                subst ej
                exact Or.inr ⟨i, x, k3, k1, ecx, rfl, rfl⟩
          · refine wp_aaldJ dX11_slicePage_66 e1.st.a1 (by decide) (by decide) rfl ⟨by omega, by omega⟩ eq1 ?_
            refine wp_aload_n dX11_slicePage_67 rfl rfl ?_
            refine wp_getR dX11_slicePage_68 lX11_20 rfl e1.oo e1.f4 ?_
            refine wp_getR dX11_slicePage_71 lX11_150 rfl e1.fl.oo e1.fl.r2 ?_
            refine wp_iload dX11_slicePage_74 rfl ?_
            refine wp_zaldV dX11_slicePage_76 e1.fl.a2 rfl ⟨by omega, by omega⟩ (e1.fl.c2 (by omega)) ?_
            refine wp_cV2 4 95 [some _, some _, some _, none, none] dX11_slicePage_77 tX2_sliceBy rfl (by decide) nX2_sliceBy vX2_sliceBy lX11_368 ⟨by decide, by decide⟩ (Nat.le_of_ble_eq_true rfl) zg1.o (Nat.le_of_ble_eq_true rfl) rfl ?_
            refine pX2_sliceBy0 zg1 hP1 hae.2 hl40 hae.1 hd (by omega) hl1 (fun hh4 x4 y4 f4 zg_4 => ?_)
            intro _ _
            have e1_4 := e1.fr f4 (by decide)
            refine wp_istore (ls1 := [_, _, _, _, _, _, some _, _]) dX11_slicePage_80 (by decide) rfl ?_
            refine wp_iload dX11_slicePage_82 rfl ?_
            refine wp_iconst (v := (-1)) dX11_slicePage_84 (by decide +kernel) ?_
            rw [← ecu]
            have zg9 := zg_4
            rw [← ecu] at zg9
            cases ecx : cuX r pa my p but i with
            | none =>
              rw [ecx] at zg9
              refine wp_icmp_ne dX11_slicePage_85 (fun q => absurd rfl q) (fun _ => ?_)
              refine wp_iconst (v := (-1)) dX11_slicePage_88 (by decide +kernel) ?_
              refine wp_ireturn dX11_slicePage_89 rfl ?_
              have en9 : cuX r pa my p but f = none := cu_und hd f i hf hu ecx
              exact hq _ _ _ _ _ _ _ ((hf1.up (by decide) (Nat.le_refl _)).tr (f4.up (by decide) (Nat.le_refl _))) (by rw [en9]; exact zg9) hP1 (by rw [en9]; rfl)
            | some x =>
              rw [ecx] at zg9
              have hx9 := cuX_ok hd (show i < F by omega) x ecx
              have hb9 := cuX_lt hd (show i < F by omega) x ecx
              have sr9 := srt_cu (but := but) (p := p) hd (show i < F by omega)
              rw [ecx] at sr9
              refine wp_icmp_ne dX11_slicePage_85 (fun _ => ?_) (fun q => absurd q (nI_ne_m1 (by omega)))
              refine wp_iload dX11_slicePage_90 rfl ?_
              refine wp_iload_n dX11_slicePage_92 rfl rfl ?_
              refine wp_icmp_geN dX11_slicePage_93 rfl rfl ⟨by omega, by omega⟩ (fun c9 => ?_) (fun c9 => ?_)
              · refine wp_iinc1 (ls1 := [_, _, _, _, _, _, _, some _]) dX11_slicePage_123 rfl (by decide) rfl ?_
                refine wp_goto dX11_slicePage_126 ?_
                have ei9 : i = f := by omega
                subst ei9
                exact ih (i + 1) _ _ _ _ _ _ _ _ _ (by omega) ((hf1.up (by decide) (Nat.le_refl _)).tr (f4.up (by decide) (Nat.le_refl _))) e1_4 zg9 hP1 (fun j h1 h2 h3 => absurd (und_le hd i j hf h2) (by omega)) (fun _ => ⟨by rw [ecx], by rw [ecx], by rw [ecx]⟩) (by omega)
              · refine wp_aload_n dX11_slicePage_96 rfl rfl ?_
                refine wp_getR dX11_slicePage_97 lX11_60 rfl e1_4.oo e1_4.r10 ?_
                refine wp_aload_n dX11_slicePage_100 rfl rfl ?_
                refine wp_getR dX11_slicePage_101 lX11_60 rfl e1_4.oo e1_4.r10 ?_
                refine wp_getLV dX11_slicePage_104 lX11_339 rfl zg9.o zg9.f3 ?_
                refine wp_cS1 1 21 [some _, none] dX11_slicePage_107 tX11_lowest sX11_lowest lX11_227 ⟨by decide, by decide⟩ (Nat.le_of_ble_eq_true rfl) (Nat.le_of_ble_eq_true rfl) rfl ?_
                refine pX11_lowest (bs_lt sr9 (show (rowL but (rT r p)).length < 63 by omega)).1 ?_
                intro _ _
                rw [(cu_low sr9 (show (rowL but (rT r p)).length < 63 by omega) hx9.2).1]
                refine wp_aload_n dX11_slicePage_110 rfl rfl ?_
                refine wp_getR dX11_slicePage_111 lX11_60 rfl e1_4.oo e1_4.r10 ?_
                refine wp_getLV dX11_slicePage_114 lX11_342 rfl zg9.o zg9.f4 ?_
                refine wp_cS1 1 21 [some _, none] dX11_slicePage_117 tX11_lowest sX11_lowest lX11_227 ⟨by decide, by decide⟩ (Nat.le_of_ble_eq_true rfl) (Nat.le_of_ble_eq_true rfl) rfl ?_
                refine pX11_lowest (bs_lt sr9 (show (rowL but (rT r p)).length < 63 by omega)).2 ?_
                intro _ _
                rw [(cu_low sr9 (show (rowL but (rT r p)).length < 63 by omega) hx9.2).2]
                refine wp_cV2 0 0 [some _, some _, some _] dX11_slicePage_120 tX2_within rfl (by decide) nX2_within vX2_within lX11_419 ⟨by decide, by decide⟩ (Nat.le_of_ble_eq_true rfl) zg9.o (Nat.le_of_ble_eq_true rfl) rfl ?_
                refine pX2_within zg9 (fun hh5 f5 zg_5 => ?_)
                intro _ _
                have e1_5 := e1_4.fr f5 (by decide)
                refine wp_iinc1 (ls1 := [_, _, _, _, _, _, _, some _]) dX11_slicePage_123 rfl (by decide) rfl ?_
                refine wp_goto dX11_slicePage_126 ?_
                refine ih (i + 1) _ _ _ _ _ _ _ _ _ (by omega) (((hf1.up (by decide) (Nat.le_refl _)).tr (f4.up (by decide) (Nat.le_refl _))).tr (f5.up (by decide) (Nat.le_refl _))) e1_5 zg_5 hP1 (fun j h1 h2 h3 => ?_) (fun z => absurd z (by omega)) (by omega)
                obtain ⟨j9, k1, k2, k3, k4⟩ := und_kid hd f i hf hu (by omega)
                have ej : j = j9 := by
                  rcases Nat.lt_trichotomy j j9 with c | c | c
                  · exact absurd h2 (by rw [k4 j (by omega) c]; decide)
                  · exact c
                  · exact absurd k2 (by rw [h3 j9 (by omega) c]; decide)
                subst ej
                exact Or.inr ⟨i, x, k3, k1, ecx, rfl, rfl⟩
        · rw [if_neg (show ¬ undF pa 4 f i = true from hu)]
          refine wp_if_eq dX11_slicePage_52 (fun _ => ?_) (fun q => absurd rfl q)
          refine wp_iinc1 (ls1 := [_, _, _, _, _, _, _, some _]) dX11_slicePage_123 rfl (by decide) rfl ?_
          refine wp_goto dX11_slicePage_126 ?_
          exact ih (i + 1) _ _ _ _ _ _ _ _ _ (by omega) (hf1.up (by decide) (Nat.le_refl _)) e1 zg1 hP1 (fun j h1 h2 h3 => hrg j (by omega) h2 (fun m m1 m2 => (Nat.eq_or_lt_of_le m1).elim (fun c => c ▸ Bool.eq_false_iff.mpr hu) (fun c => h3 m c m2))) (fun z => by rw [show i = f by omega] at hu; exact absurd und_0 hu) (by omega)
  refine wp_aload_n dX11_slicePage_0 rfl rfl ?_
  refine wp_getR dX11_slicePage_1 lX11_34 rfl e9.oo e9.r6 ?_
  refine wp_cV0 2 43 [some _] dX11_slicePage_4 tX3_now rfl (by decide) nX3_now vX3_now lX11_101 ⟨by decide, by decide⟩ (Nat.le_of_ble_eq_true rfl) e9.hh.o (Nat.le_of_ble_eq_true rfl) rfl ?_
  refine pX3_now e9.hh e9.kb e9.od.1 e9.od.2 ?_
  intro _ _
  refine wp_astore (ls1 := [_, _, _, _, some _, _, _, _]) dX11_slicePage_7 (by decide) rfl ?_
  refine wp_aload_n dX11_slicePage_9 rfl rfl ?_
  refine wp_getR dX11_slicePage_10 lX11_60 rfl e9.oo e9.r10 ?_
  refine wp_aload dX11_slicePage_13 rfl ?_
  refine wp_iload_n dX11_slicePage_15 rfl rfl ?_
  refine wp_cV1 0 0 [some _, some _] dX11_slicePage_16 tX8_pageAt rfl (by decide) nX8_pageAt vX8_pageAt lX11_176 ⟨by decide, by decide⟩ (Nat.le_of_ble_eq_true rfl) e9.st.oo (Nat.le_of_ble_eq_true rfl) rfl ?_
  refine pX8_pageAt e9.st hP6 (fun p1 q1 hp1 ep1 pg1 => ?_) (fun xn1 => absurd xn1 (by rw [ix_nI (by omega) (by omega)]; exact fun z => by cases z))
  have ep1 := (nI_eq (by omega) (by omega)).mp ep1
  subst ep1
  intro _ _
  refine wp_iload_n dX11_slicePage_19 rfl rfl ?_
  refine wp_cV2 1 24 [some _, some _, some _, none, none, none] dX11_slicePage_20 tX2_lay rfl (by decide) nX2_lay vX2_lay lX11_415 ⟨by decide, by decide⟩ (Nat.le_of_ble_eq_true rfl) zg.o (Nat.le_of_ble_eq_true rfl) rfl ?_
  refine pX2_lay zg hd (by omega) pg1 (fun hh2 pl2 f2 zg_2 gp2 => ?_)
  intro _ _
  have e9_2 := e9.fr f2 (by decide)
  have pg1_2 := pg1.fr f2 (rnS (by omega) rn0)
  refine wp_aload_n dX11_slicePage_23 rfl rfl ?_
  refine wp_getR dX11_slicePage_24 lX11_20 rfl e9_2.oo e9_2.f4 ?_
  refine wp_iload_n dX11_slicePage_27 rfl rfl ?_
  refine wp_cV1 1 21 [some _, some _, none, none, none] dX11_slicePage_28 tX1_lineOf rfl (by decide) nX1_lineOf vX1_lineOf lX11_235 ⟨by decide, by decide⟩ (Nat.le_of_ble_eq_true rfl) e9_2.fl.oo (Nat.le_of_ble_eq_true rfl) rfl ?_
  refine pX1_lineOf e9_2.fl hd hf ?_
  intro _ _
  refine wp_istore (ls1 := [_, _, _, _, _, some _, _, _]) dX11_slicePage_31 (by decide) rfl ?_
  refine wp_iconst (v := (-1)) dX11_slicePage_33 (by decide +kernel) ?_
  refine wp_istore (ls1 := [_, _, _, _, _, _, some _, _]) dX11_slicePage_34 (by decide) rfl ?_
  refine wp_iconst (v := (nI 0)) dX11_slicePage_36 (by decide +kernel) ?_
  refine wp_istore (ls1 := [_, _, _, _, _, _, _, some _]) dX11_slicePage_37 (by decide) rfl ?_
  exact hloop (f + 2) 0 _ _ _ _ _ _ _ _ _ (by omega) (f2.up (by decide) (Nat.le_refl _)) e9_2 zg_2 gp2 (fun j _ h2 h3 => Or.inl ⟨und_top hd hf h2 (fun m hm => h3 m (Nat.zero_le _) hm), rfl, rfl⟩) (fun z => absurd z (by omega)) (by omega)
