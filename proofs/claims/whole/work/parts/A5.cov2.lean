/-! ===== a cover solved ===== -/
theorem cvG_eq {B : Nat → Option Nat} {rest : Nat → Nat × Nat × Nat} {l : Nat} : ∀ n d, cvG B rest l n = some d → ∃ key, B d.2.2 = some key ∧ d = cvC (rest d.2.2) d.2.2 key
  | 0, d, e => by cases e
  | n + 1, d, e => by
    cases c : B n with
    | none => rw [cvG_no (Or.inl c)] at e; exact cvG_eq n d e
    | some key =>
      cases t : n.testBit l with
      | false => rw [cvG_no (Or.inr t)] at e; exact cvG_eq n d e
      | true =>
        rw [cvG_s c t] at e
        split at e
        · injection e with e
          subst e
          exact ⟨key, c, rfl⟩
        · exact cvG_eq n d e
def dpF (K : Nat → Nat) (v0 v1 v2 v3 : Nat → Int32) (M : Nat → Nat × Nat × Nat) (g s : Nat) : Prop := dpC v2 v3 M g s ∧ ∀ d, 0 < d → d < s → d &&& (63 - g) = 0 → v1 d = nI (M d).2.2 ∧ cvG (bO K v0) (fun k => M (d &&& (63 - k))) (lb d) 64 = some (M d)
theorem dp_0 {K : Nat → Nat} {v0 v1 v2 v3 : Nat → Int32} {g : Nat} : dpF K v0 v1 v2 v3 (fun _ => (0, 0, 0)) g 1 := ⟨⟨rfl, fun d h1 h2 => by omega⟩, fun d h1 h2 => by omega⟩
theorem dp_no {K : Nat → Nat} {v0 v1 v2 v3 : Nat → Int32} {M : Nat → Nat × Nat × Nat} {g s : Nat} (q : dpF K v0 v1 v2 v3 M g s) (h : s &&& (63 - g) ≠ 0) : dpF K v0 v1 v2 v3 M g (s + 1) := by
  refine ⟨⟨q.1.1, fun d h1 h2 h3 => ?_⟩, fun d h1 h2 h3 => ?_⟩
  · by_cases e : d = s
    · subst e; exact absurd h3 h
    · exact q.1.2 d h1 (by omega) h3
  · by_cases e : d = s
    · subst e; exact absurd h3 h
    · exact q.2 d h1 (by omega) h3
theorem dp_yes {K O Wr Rt : Nat → Nat} {s9 c : Nat} {v0 v1 v2 v3 w1 w2 w3 : Nat → Int32} {M : Nat → Nat × Nat × Nat} {g s : Nat} (hfs : fsP O Wr Rt s9 c v0 g) (hc : c ≤ 20480) (q : dpF K v0 v1 v2 v3 M g s) (hs : s < 64) (h0 : 0 < s) (hg : s &&& (63 - g) = 0) (hw : ∀ d, d ≠ s → w1 d = v1 d ∧ w2 d = v2 d ∧ w3 d = v3 d) (hcu : cuP (w2 s) (w3 s) (w1 s) (pcb s) (cvG (bO K v0) (fun k => M (s &&& (63 - k))) (lb s) 64)) : ∃ M', dpF K v0 w1 w2 w3 M' g (s + 1) := by
  obtain ⟨hlo, hl6, hlb⟩ := lb_lo hs h0
  have hgb := sub_tb hfs.1.1 hg hs hlb
  obtain ⟨k, hk, hv, hkb⟩ := (hfs.1.2 _).mp hgb
  obtain ⟨x, hx, ek, eB, hk0⟩ := fs_x (K := K) hfs hc hk hv
  obtain ⟨d, hd⟩ := cvG_some (B := bO K v0) (rest := fun k => M (s &&& (63 - k))) (l := lb s) 64 ⟨k, hk, hkb, by rw [eB]; exact fun z => by cases z⟩
  rw [hd] at hcu
  obtain ⟨⟨h1, h2, h3⟩, h4, h5⟩ := hcu
  have hM : ∀ y, y < s → upN M s d y = M y := fun y hy => upN_ne (by omega)
  refine ⟨upN M s d, ⟨by rw [hM 0 h0]; exact q.1.1, fun y a1 a2 a3 => ?_⟩, fun y a1 a2 a3 => ?_⟩
  · by_cases e : y = s
    · subst e
      rw [upN_at]
      exact ⟨⟨h1, h2⟩, h4, h5⟩
    · rw [hM y (by omega), (hw y e).2.1, (hw y e).2.2]
      exact q.1.2 y a1 (by omega) a3
  · by_cases e : y = s
    · subst e
      rw [upN_at]
      refine ⟨h3, ?_⟩
      rw [← hd]
      exact cvG_cg 64 (fun k hk t _ => hM _ (pcb_lt hs hk hl6 hlb t).1)
    · rw [hM y (by omega), (hw y e).1]
      refine ⟨(q.2 y a1 (by omega) a3).1, ?_⟩
      rw [← (q.2 y a1 (by omega) a3).2]
      exact cvG_cg 64 (fun k hk t _ => hM _ (Nat.lt_of_le_of_lt Nat.and_le_left (by omega)))
/-- one step of the row -/
theorem dp_st {K O Wr Rt : Nat → Nat} {s9 c : Nat} {v0 v1 v2 v3 : Nat → Int32} {M : Nat → Nat × Nat × Nat} {g d : Nat} (hfs : fsP O Wr Rt s9 c v0 g) (hc : c ≤ 20480) (q : dpF K v0 v1 v2 v3 M g 64) (hd : d < 64) (h0 : 0 < d) (hg : d &&& (63 - g) = 0) : ∃ x, (x < c ∧ v0 (M d).2.2 = nI x ∧ bO K v0 (M d).2.2 = some (K x)) ∧ v1 d = nI (M d).2.2 ∧ (M d).2.2 < 64 ∧ (d &&& (63 - (M d).2.2) < d ∧ pcb (d &&& (63 - (M d).2.2)) < pcb d) ∧ (d &&& (63 - (M d).2.2)) &&& (63 - g) = 0 ∧ (M d).2.1 = K x / 4294967296 + (M (d &&& (63 - (M d).2.2))).2.1 := by
  have h1 := q.2 d h0 hd hg
  obtain ⟨m1, m2, key, m3⟩ := cvG_mem 64 _ h1.2
  obtain ⟨key', e1, e2⟩ := cvG_eq 64 _ h1.2
  have h6 := bO_ne m3
  obtain ⟨x, hx, ek, eB, hk0⟩ := fs_x (K := K) hfs hc h6.1 h6.2
  have hl := lb_lo hd h0
  refine ⟨x, ⟨hx, ek, eB⟩, h1.1, m1, pcb_lt hd m1 hl.2.1 hl.2.2 m2, sub_and hg, ?_⟩
  rw [eB] at e1
  injection e1 with e1
  have := congrArg (fun z => z.2.1) e2
  rw [← e1] at this
  exact this
theorem pcb_0 {d : Nat} (hd : d < 64) (h : 0 < d) : 0 < pcb d := by
  have : ∀ d : Fin 64, 0 < d.val → 0 < pcb d.val := by decide +kernel
  exact this ⟨d, hd⟩ h
theorem csum_c {x : Nat} {t : List Nat} : ∀ k, csum (x :: t) (k + 1) = x / 4294967296 + csum t k
  | 0 => by show csum _ 0 + _ = _; show 0 + x / 4294967296 = x / 4294967296 + 0; omega
  | k + 1 => by
    have := csum_c (x := x) (t := t) k
    show csum (x :: t) (k + 1) + t.getD k 0 / 4294967296 = x / 4294967296 + (csum t k + t.getD k 0 / 4294967296)
    omega
theorem cvLr_0 {B : Nat → Option Nat} {M : Nat → Nat × Nat × Nat} {n : Nat} : cvLr B M n 0 = [] := by
  cases n with
  | zero => rfl
  | succ n => exact if_pos rfl
theorem cvLr_s {B : Nat → Option Nat} {M : Nat → Nat × Nat × Nat} {n s : Nat} (h : s ≠ 0) : cvLr B M (n + 1) s = (B (M s).2.2).getD 0 :: cvLr B M n (s &&& (63 - (M s).2.2)) := if_neg h
theorem csum_M {K O Wr Rt : Nat → Nat} {s9 c : Nat} {v0 v1 v2 v3 : Nat → Int32} {M : Nat → Nat × Nat × Nat} {g : Nat} (hfs : fsP O Wr Rt s9 c v0 g) (hc : c ≤ 20480) (q : dpF K v0 v1 v2 v3 M g 64) : ∀ n d, pcb d < n → d < 64 → d &&& (63 - g) = 0 → csum (cvLr (bO K v0) M n d) (cvLr (bO K v0) M n d).length = (M d).2.1 ∧ (cvLr (bO K v0) M n d).length ≤ pcb d
  | 0, d, h, _, _ => by omega
  | n + 1, d, h, hd, hg => by
    by_cases e : d = 0
    · subst e
      rw [cvLr_0, q.1.1]
      exact ⟨rfl, Nat.zero_le _⟩
    · obtain ⟨x, ⟨h1, h2, h3⟩, h4, h5, h6, h7, h8⟩ := dp_st hfs hc q hd (by omega) hg
      obtain ⟨r1, r2⟩ := csum_M hfs hc q n (d &&& (63 - (M d).2.2)) (by omega) (by omega) h7
      rw [cvLr_s e, List.length_cons, csum_c, r1, h8, h3]
      exact ⟨rfl, by omega⟩
def rowP (K : Nat → Nat) (c : Nat) (v4 : Nat → Int32) (L : List Nat) (n : Nat) : Prop := ∀ j, j < n → ∃ x, x < c ∧ v4 j = nI x ∧ L.getD j 0 = K x
theorem row_s {K : Nat → Nat} {c : Nat} {v4 : Nat → Int32} {L : List Nat} {n x : Nat} (q : rowP K c v4 L n) (hx : x < c) (h : L.getD n 0 = K x) : rowP K c (upI v4 n (nI x)) L (n + 1) := fun j hj => by
  by_cases e : j = n
  · subst e; exact ⟨x, hx, upI_at _ _ _, h⟩
  · rw [upI_ne e]; exact q j (by omega)
theorem gd_drop {L t : List Nat} {n y : Nat} (h : L.drop n = y :: t) : L.getD n 0 = y ∧ L.drop (n + 1) = t ∧ n < L.length := by
  have hl : n < L.length := by
    apply Classical.byContradiction
    intro z
    rw [List.drop_eq_nil_of_le (by omega)] at h
    cases h
  have := drop_s hl
  rw [h] at this
  injection this with a b
  exact ⟨a.symm, b.symm, hl⟩
set_option maxRecDepth 20000 in
theorem solveC_row {h : mH} {Q : Option Value → mH → Prop} {ow : Nat → Nat} {v0 v1 v2 v3 v4 : Nat → Int32} {vk vh : Int32} {a c : Nat} {K O Wr Rt : Nat → Nat} {s9 s g : Nat} {M : Nat → Nat × Nat × Nat} {L : List Nat} (zv : zV ow h v0 v1 v2 v3 v4 (nI 0) vk vh) (hc : c ≤ 20480) (hfs : fsP O Wr Rt s9 c v0 g) (hdp : dpF K v0 v1 v2 v3 M g 64) (hLe : L = cvLr (bO K v0) M 7 g) (hq : ∀ h' w4, cFr [2] 0 ow h ow h' → zV ow h' v0 v1 v2 v3 w4 (nI L.length) vk vh → rowP K c w4 L L.length → Q none h') : Wp mX0_solve 2 51 74 [some (.ref 109), some (.ref a), some (.int (nI s)), some (.int (nI g)), some (.int (nI g))] [] h Q := by
  have hloop : ∀  (t9 : Nat) (n : Nat) (d : Nat) (w4 : Nat → Int32) (h1 : mH), (n ≤ L.length ∧ pcb d + n ≤ 6) → (d < 64) → (d &&& (63 - g) = 0) → (cFr [2] 0 ow h ow h1) → (zV ow h1 v0 v1 v2 v3 w4 (nI n) vk vh) → (rowP K c w4 L n) → (L.drop n = cvLr (bO K v0) M (7 - n) d) → (6 < n + t9) → Wp mX0_solve 2 51 74 [some (.ref 109), some (.ref a), some (.int (nI s)), some (.int (nI g)), some (.int (nI d))] [] h1 Q := by
    intro t9
    induction t9 with
    | zero => intros; omega
    | succ t9 ih =>
      intro n d w4 h1 hn hd hg hf1 zv1 hrw hL hmz
      refine wp_iload dX0_solve_74 rfl ?_
      refine wp_if_eqN dX0_solve_76 rfl (by omega) (fun c1 => ?_) (fun c1 => ?_)
      · refine wp_vreturn dX0_solve_136 rfl ?_
        have ed9 : d = 0 := by omega
        subst ed9
        rw [cvLr_0] at hL
        have hle := List.drop_eq_nil_iff.mp hL
        have en9 : n = L.length := by omega
        subst en9
        exact hq _ _ hf1 zv1 hrw
      · obtain ⟨x, hx, hv1, hM6, hlt, hg2, _⟩ := dp_st hfs hc hdp hd (by omega) hg
        have hp0 := pcb_0 hd (by omega)
        refine wp_aload_n dX0_solve_79 rfl rfl ?_
        refine wp_getIV dX0_solve_80 lX0_42 rfl zv1.o zv1.f5 ?_
        refine wp_bipush (v := (nI 6)) dX0_solve_83 (by decide +kernel) ?_
        refine wp_icmp_geN dX0_solve_85 rfl rfl ⟨by omega, by omega⟩ (fun q => absurd q (by omega)) (fun _ => ?_)
        refine wp_aload_n dX0_solve_88 rfl rfl ?_
        refine wp_getR dX0_solve_89 lX0_24 rfl zv1.o zv1.r4 ?_
        refine wp_aload_n dX0_solve_92 rfl rfl ?_
        refine wp_getIV dX0_solve_93 lX0_42 rfl zv1.o zv1.f5 ?_
        refine wp_aload_n dX0_solve_96 rfl rfl ?_
        refine wp_getR dX0_solve_97 lX0_9 rfl zv1.o zv1.r0 ?_
        refine wp_aload_n dX0_solve_100 rfl rfl ?_
        refine wp_getR dX0_solve_101 lX0_15 rfl zv1.o zv1.r1 ?_
        refine wp_iload dX0_solve_104 rfl ?_
        refine wp_ialdV dX0_solve_106 zv1.a1 rfl ⟨by omega, by omega⟩ ((congrFun zv1.c1 _).trans hv1) ?_
        refine wp_ialdV dX0_solve_107 zv1.a0 rfl ⟨by omega, by omega⟩ ((congrFun zv1.c0 _).trans hx.2.1) ?_
        refine wp_iastN dX0_solve_108 zv1.a4 rfl ⟨by omega, by omega⟩ ?_
        refine zv1.w4 (fun hh1 f1 zv1_1 => ?_)
        refine wp_aload_n dX0_solve_109 rfl rfl ?_
        refine wp_dup dX0_solve_110 rfl ?_
        refine wp_getIV dX0_solve_111 lX0_42 rfl zv1_1.o zv1_1.f5 ?_
        refine wp_iconst (v := (nI 1)) dX0_solve_114 (by decide +kernel) ?_
        refine wp_iadd dX0_solve_115 ?_
        refine wp_putIN dX0_solve_116 lX0_42 rfl rfl (Or.inl rfl) zv1_1.o (isN_add rfl rfl) ?_
        refine zv1_1.p5 (fun hh2 f2 zv1_2 => ?_)
        refine wp_iload dX0_solve_119 rfl ?_
        refine wp_aload_n dX0_solve_121 rfl rfl ?_
        refine wp_getR dX0_solve_122 lX0_15 rfl zv1_2.o zv1_2.r1 ?_
        refine wp_iload dX0_solve_125 rfl ?_
        refine wp_ialdV dX0_solve_127 zv1_2.a1 rfl ⟨by omega, by omega⟩ ((congrFun zv1_2.c1 _).trans hv1) ?_
        refine wp_iconst (v := (-1)) dX0_solve_128 (by decide +kernel) ?_
        refine wp_ixor dX0_solve_129 ?_
        refine wp_iand dX0_solve_130 ?_
        rw [nx_not hM6 hd]
        refine wp_istore (ls1 := [_, _, _, _, some _]) dX0_solve_131 (by decide) rfl ?_
        refine wp_goto dX0_solve_133 ?_
        have hdr : L.drop n = K x :: cvLr (bO K v0) M (6 - n) (d &&& (63 - (M d).2.2)) := by rw [hL, show 7 - n = (6 - n) + 1 by omega, cvLr_s (by omega), hx.2.2]; rfl
        have hdr := gd_drop hdr
        exact ih (n + 1) _ _ _ (by omega) (by omega) hg2 (((hf1.up (by decide) (Nat.le_refl _)).tr (f1.up (by decide) (Nat.le_refl _))).tr (f2.up (by decide) (Nat.le_refl _))) zv1_2 (row_s hrw hx.1 hdr.1) (by rw [show 7 - (n + 1) = 6 - n by omega]; exact hdr.2.1) (by omega)
  have hp6 := pcb_le g
  exact hloop 7 0 g _ h ⟨Nat.zero_le _, by omega⟩ hfs.1.1 (sub_of hfs.1.1 (fun p h => h)) cFr.rf zv (fun j hj => absurd hj (Nat.not_lt_zero j)) hLe (by omega)
set_option maxRecDepth 20000 in
theorem solveC_sets {h : mH} {Q : Option Value → mH → Prop} {ow : Nat → Nat} {v0 v1 v2 v3 v4 : Nat → Int32} {vc vk vh : Int32} {a ρ c : Nat} {K O Wr Rt : Nat → Nat} {s9 s g : Nat} (zv : zV ow h v0 v1 v2 v3 v4 vc vk vh) (tv : tbV ow h a ρ c K O Wr Rt) (hρ : 11 ≤ ρ) (hc : c ≤ 20480) (hK : ∀ i j, i < j → j < c → K i < K j) (hfs : fsP O Wr Rt s9 c v0 g) (hq : ∀ h' w1 w2 w3 w4 M g', cFr [2] 0 ow h ow h' → zV ow h' v0 w1 w2 w3 w4 (nI (cvLr (bO K v0) M 7 g').length) (nI (M g').2.1) vh → fsP O Wr Rt s9 c v0 g' → dpF K v0 w1 w2 w3 M g' 64 → rowP K c w4 (cvLr (bO K v0) M 7 g') (cvLr (bO K v0) M 7 g').length → Q none h') : Wp mX0_solve 2 51 19 [some (.ref 109), some (.ref a), some (.int (nI s)), some (.int (nI g)), some (.int (nI 1))] [] h Q := by
  have hloop : ∀  (t9 : Nat) (t : Nat) (M : Nat → Nat × Nat × Nat) (w1 : Nat → Int32) (w2 : Nat → Int32) (w3 : Nat → Int32) (h1 : mH), (1 ≤ t ∧ t ≤ 64) → (cFr [2] 0 ow h ow h1) → (zV ow h1 v0 w1 w2 w3 v4 vc vk vh) → (tbV ow h1 a ρ c K O Wr Rt) → (dpF K v0 w1 w2 w3 M g t) → (64 < t + t9) → Wp mX0_solve 2 51 19 [some (.ref 109), some (.ref a), some (.int (nI s)), some (.int (nI g)), some (.int (nI t))] [] h1 Q := by
    intro t9
    induction t9 with
    | zero => intros; omega
    | succ t9 ih =>
      intro t M w1 w2 w3 h1 ht hf1 zv1 tv1 hdp hmz
      refine wp_iload dX0_solve_19 rfl ?_
      refine wp_bipush (v := (nI 64)) dX0_solve_21 (by decide +kernel) ?_
      refine wp_icmp_geN dX0_solve_23 rfl rfl ⟨by omega, by omega⟩ (fun c2 => ?_) (fun c2 => ?_)
      · have et9 : t = 64 := by omega
        subst et9
        have hg64 := hfs.1.1
        refine wp_aload_n dX0_solve_48 rfl rfl ?_
        refine wp_iload_n dX0_solve_49 rfl rfl ?_
        refine wp_if_neN dX0_solve_50 rfl (by omega) (fun c3 => ?_) (fun c3 => ?_)
        · refine wp_aload_n dX0_solve_57 rfl rfl ?_
          refine wp_getR dX0_solve_58 lX0_21 rfl zv1.o zv1.r3 ?_
          refine wp_iload_n dX0_solve_61 rfl rfl ?_
          refine wp_ialdV dX0_solve_62 zv1.a3 rfl ⟨by omega, by omega⟩ ((congrFun zv1.c3 _).trans (hdp.1.2 g (by omega) hfs.1.1 (sub_of hfs.1.1 (fun p h => h))).1.2) ?_
          -- the cost
          refine wp_putI dX0_solve_63 lX0_39 rfl (Or.inl rfl) zv1.o rfl rfl ?_
          refine zv1.p6 (fun hh1 f1 zv1_1 => ?_)
          have tv1_1 := tv1.fr f1 (rnS (by omega) rn0)
          refine wp_aload_n dX0_solve_66 rfl rfl ?_
          refine wp_iconst (v := (nI 0)) dX0_solve_67 (by decide +kernel) ?_
          refine wp_putI dX0_solve_68 lX0_42 rfl (Or.inl rfl) zv1_1.o rfl rfl ?_
          refine zv1_1.p5 (fun hh2 f2 zv1_2 => ?_)
          have tv1_2 := tv1_1.fr f2 (rnS (by omega) rn0)
          refine wp_iload_n dX0_solve_71 rfl rfl ?_
          refine wp_istore (ls1 := [_, _, _, _, some _]) dX0_solve_72 (by decide) rfl ?_
          -- none
          refine solveC_row zv1_2 hc hfs hdp rfl (fun h9 w4 f9 zv9 hr9 => ?_)
          exact hq _ _ _ _ _ M g ((((hf1.up (by decide) (Nat.le_refl _)).tr (f1.up (by decide) (Nat.le_refl _))).tr (f2.up (by decide) (Nat.le_refl _))).tr f9) zv9 hfs hdp hr9
        · refine wp_iconst (v := (nI 0)) dX0_solve_53 (by decide +kernel) ?_
          refine wp_goto dX0_solve_54 ?_
          rw [show nI 0 = nI (M g).2.1 from by rw [(show g = 0 by omega), hdp.1.1]]
          refine wp_putI dX0_solve_63 lX0_39 rfl (Or.inl rfl) zv1.o rfl rfl ?_
          refine zv1.p6 (fun hh3 f3 zv1_3 => ?_)
          have tv1_3 := tv1.fr f3 (rnS (by omega) rn0)
          refine wp_aload_n dX0_solve_66 rfl rfl ?_
          refine wp_iconst (v := (nI 0)) dX0_solve_67 (by decide +kernel) ?_
          refine wp_putI dX0_solve_68 lX0_42 rfl (Or.inl rfl) zv1_3.o rfl rfl ?_
          refine zv1_3.p5 (fun hh4 f4 zv1_4 => ?_)
          have tv1_4 := tv1_3.fr f4 (rnS (by omega) rn0)
          refine wp_iload_n dX0_solve_71 rfl rfl ?_
          refine wp_istore (ls1 := [_, _, _, _, some _]) dX0_solve_72 (by decide) rfl ?_
          -- none
          refine solveC_row zv1_4 hc hfs hdp rfl (fun h9 w4 f9 zv9 hr9 => ?_)
          exact hq _ _ _ _ _ M g ((((hf1.up (by decide) (Nat.le_refl _)).tr (f3.up (by decide) (Nat.le_refl _))).tr (f4.up (by decide) (Nat.le_refl _))).tr f9) zv9 hfs hdp hr9
      · refine wp_iload dX0_solve_26 rfl ?_
        refine wp_iload_n dX0_solve_28 rfl rfl ?_
        refine wp_iconst (v := (-1)) dX0_solve_29 (by decide +kernel) ?_
        refine wp_ixor dX0_solve_30 ?_
        refine wp_iand dX0_solve_31 ?_
        rw [nx_not hfs.1.1 (by omega)]
        refine wp_if_neN dX0_solve_32 rfl (Nat.lt_of_le_of_lt Nat.and_le_left (by omega)) (fun c4 => ?_) (fun c4 => ?_)
        · refine wp_iinc1 (ls1 := [_, _, _, _, some _]) dX0_solve_42 rfl (by decide) rfl ?_
          refine wp_goto dX0_solve_45 ?_
          exact ih (t + 1) M _ _ _ _ (by omega) (hf1.up (by decide) (Nat.le_refl _)) zv1 tv1 (dp_no hdp (by omega)) (by omega)
        · refine wp_aload_n dX0_solve_35 rfl rfl ?_
          refine wp_aload_n dX0_solve_36 rfl rfl ?_
          refine wp_iload dX0_solve_37 rfl ?_
          refine wp_cV2 1 24 [some _, some _, some _, none, none, none, none, none] dX0_solve_39 tX0_pickFor rfl (by decide) nX0_pickFor vX0_pickFor lX0_35 ⟨by decide, by decide⟩ (Nat.le_of_ble_eq_true rfl) zv1.o (Nat.le_of_ble_eq_true rfl) rfl ?_
          have hsb : t &&& (63 - g) = 0 := by omega
          refine pX0_pickFor zv1 tv1 hρ (by omega) (by omega) hfs hK hsb hdp.1 (fun hh5 x1 x2 x3 f5 zv1_5 hw5 hcu5 => ?_)
          intro _ _
          obtain ⟨M9, hM9⟩ := dp_yes hfs hc hdp (by omega) (by omega) hsb hw5 hcu5
          have tv1_5 := tv1.fr f5 (rnS (by omega) rn0)
          refine wp_iinc1 (ls1 := [_, _, _, _, some _]) dX0_solve_42 rfl (by decide) rfl ?_
          refine wp_goto dX0_solve_45 ?_
          exact ih (t + 1) M9 _ _ _ _ (by omega) ((hf1.up (by decide) (Nat.le_refl _)).tr (f5.up (by decide) (Nat.le_refl _))) zv1_5 tv1_5 hM9 (by omega)
  exact hloop 64 1 _ _ _ _ h ⟨by omega, by omega⟩ cFr.rf zv tv dp_0 (by omega)
theorem fs_g {O Wr Rt : Nat → Nat} {s c g g' : Nat} {v0 : Nat → Int32} (q : fsP O Wr Rt s c v0 g) (q' : fsP O Wr Rt s c v0 g') : g = g' := Nat.eq_of_testBit_eq (fun p => by rw [Bool.eq_iff_iff, q.1.2 p, q'.1.2 p])
set_option maxRecDepth 20000 in
theorem pX0_solve0 {h : mH} {Q : Option Value → mH → Prop} {ow : Nat → Nat} {v0 v1 v2 v3 v4 : Nat → Int32} {vc vk vh : Int32} {a ρ c : Nat} {K O Wr Rt : Nat → Nat} {s : Nat} (zv : zV ow h v0 v1 v2 v3 v4 vc vk vh) (tv : tbV ow h a ρ c K O Wr Rt) (hρ : 11 ≤ ρ) (hs : s < 64) (hK : ∀ i j, i < j → j < c → K i < K j) (hq : ∀ h' w0 w1 w2 w3 w4 M g, cFr [2] 0 ow h ow h' → zV ow h' w0 w1 w2 w3 w4 (nI (cvLr (bO K w0) M 7 g).length) (nI (M g).2.1) (nI (s &&& (63 - g))) → fsP O Wr Rt s c w0 g → dpF K w0 w1 w2 w3 M g 64 → rowP K c w4 (cvLr (bO K w0) M 7 g) (cvLr (bO K w0) M 7 g).length → Q none h') : Wp mX0_solve 2 51 0 [some (.ref 109), some (.ref a), some (.int (nI s)), none, none] [] h Q := by
  have hc := tv.c.1
  refine wp_aload_n dX0_solve_0 rfl rfl ?_
  refine wp_aload_n dX0_solve_1 rfl rfl ?_
  refine wp_iload_n dX0_solve_2 rfl rfl ?_
  refine wp_cV2 1 23 [some _, some _, some _, none, none, none, none] dX0_solve_3 tX0_findFirsts rfl (by decide) nX0_findFirsts vX0_findFirsts lX0_27 ⟨by decide, by decide⟩ (Nat.le_of_ble_eq_true rfl) zv.o (Nat.le_of_ble_eq_true rfl) rfl ?_
  refine pX0_findFirsts zv tv hρ hs (fun hh1 w0 g f1 zv_1 hfs1 => ?_)
  intro _ _
  have tv_1 := tv.fr f1 (rnS (by omega) rn0)
  refine wp_istore_n (ls1 := [_, _, _, some _, _]) dX0_solve_6 rfl (by decide) rfl ?_
  refine wp_aload_n dX0_solve_7 rfl rfl ?_
  refine wp_iload_n dX0_solve_8 rfl rfl ?_
  refine wp_iload_n dX0_solve_9 rfl rfl ?_
  refine wp_iconst (v := (-1)) dX0_solve_10 (by decide +kernel) ?_
  refine wp_ixor dX0_solve_11 ?_
  refine wp_iand dX0_solve_12 ?_
  rw [nx_not hfs1.1.1 hs]
  refine wp_putI dX0_solve_13 lX0_31 rfl (Or.inl rfl) zv_1.o rfl rfl ?_
  refine zv_1.p7 (fun hh2 f2 zv_2 => ?_)
  have tv_2 := tv_1.fr f2 (rnS (by omega) rn0)
  refine wp_iconst (v := (nI 1)) dX0_solve_16 (by decide +kernel) ?_
  refine wp_istore (ls1 := [_, _, _, _, some _]) dX0_solve_17 (by decide) rfl ?_
  refine solveC_sets zv_2 tv_2 hρ hc hK hfs1 (fun h9 w1 w2 w3 w4 M9 g9 f9 zv9 fs9 dp9 rw9 => ?_)
  exact hq _ _ _ _ _ _ M9 g9 (((f1.up (by decide) (Nat.le_refl _)).tr (f2.up (by decide) (Nat.le_refl _))).tr f9) (fs_g hfs1 fs9 ▸ zv9) fs9 dp9 rw9
