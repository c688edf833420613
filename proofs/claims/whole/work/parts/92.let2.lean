/-! ===== what is cut, spelt ===== -/
theorem rowL_T {t : Nat} (ht : t ≤ 40) : ∀ m, m ≤ 41 → (rowL (nI t) m).length = if m ≤ t then m else m - 1
  | 0, _ => by rw [if_pos (Nat.zero_le _)]; rfl
  | m + 1, hm => by
    have ih := rowL_T ht m (by omega)
    by_cases e : m = t
    · subst e
      rw [rowL_s0 rfl, ih, if_pos (Nat.le_refl _), if_neg (by omega)]
      omega
    · rw [rowL_s1 (fun z => e ((nI_eq (by omega) (by omega)).mp z)), List.length_append, ih]
      show (if m ≤ t then m else m - 1) + 1 = _
      by_cases z : m ≤ t
      · rw [if_pos z, if_pos (by omega)]
      · rw [if_neg z, if_neg (by omega)]
        omega
theorem rwT_lo {r : Nat → Int64} {p t k : Nat} (hT : rT r p ≤ 40) (ht : t < rT r p) (hk : k < t) : rwW r p (nI t) k = rW r p k := by
  have h := rw_at (r := r) (p := p) (k := k) (but := nI t) (fun z => absurd ((nI_eq (by omega) (by omega)).mp z) (by omega)) (by omega)
  rw [rowL_T (by omega) k (by omega), if_pos (by omega)] at h
  exact h
theorem rwT_hi {r : Nat → Int64} {p t k : Nat} (hT : rT r p ≤ 40) (ht : t < rT r p) (hk : t ≤ k) (hn : k < (rowL (nI t) (rT r p)).length) : rwW r p (nI t) k = rW r p (k + 1) ∧ k + 1 < rT r p := by
  rw [rowL_T (by omega) _ (by omega), if_neg (by omega)] at hn
  have h := rw_at (r := r) (p := p) (k := k + 1) (but := nI t) (fun z => absurd ((nI_eq (by omega) (by omega)).mp z) (by omega)) (by omega)
  rw [rowL_T (by omega) (k + 1) (by omega), if_neg (by omega), Nat.add_sub_cancel] at h
  exact ⟨h, by omega⟩
theorem srt_lt {l : List (Nat × Nat)} {n : Nat} (h : srt l n) (i : Nat) : ∀ d, i + 1 + d < l.length → (l.getD i (0, 0)).2 ≤ (l.getD (i + 1 + d) (0, 0)).1
  | 0, hd => (h i (by omega)).2.2 hd
  | d + 1, hd => by
    have a1 := srt_lt h i d (by omega)
    have a2 := h (i + 1 + d) (by omega)
    have a3 := a2.2.2 (by omega)
    have a4 := a2.1
    show _ ≤ (l.getD (i + 1 + d + 1) (0, 0)).1
    omega
theorem bit_in {l : List (Nat × Nat)} {n i at9 : Nat} (h : srt l n) (hn : n < 63) (hi : i < l.length) (h1 : (l.getD i (0, 0)).1 ≤ at9) (h2 : at9 < (l.getD i (0, 0)).2) : (bsA l).testBit at9 = decide (at9 = (l.getD i (0, 0)).1) := by
  unfold bsA
  rw [bsN_tb at9 (srt_asc h hn).1]
  refine decide_eq_decide.mpr ⟨fun z => ?_, fun z => ?_⟩
  · obtain ⟨q, hq, e⟩ := List.mem_map.mp z
    obtain ⟨j, hj, ej⟩ := List.getElem_of_mem hq
    have eg : l.getD j (0, 0) = q := by rw [List.getD_eq_getElem?_getD, List.getElem?_eq_getElem hj, ej]; rfl
    rcases Nat.lt_trichotomy j i with c | c | c
    · have := srt_lt h j (i - (j + 1)) (by omega)
      rw [show j + 1 + (i - (j + 1)) = i by omega] at this
      have h3 := (h j hj).1
      rw [eg] at this h3
      omega
    · rw [← c, eg, e]
    · have := srt_lt h i (j - (i + 1)) (by omega)
      rw [show i + 1 + (j - (i + 1)) = j by omega, eg] at this
      omega
  · refine List.mem_map.mpr ⟨l.getD i (0, 0), ?_, z.symm⟩
    rw [List.getD_eq_getElem?_getD, List.getElem?_eq_getElem hi]
    exact List.getElem_mem hi
theorem bitL {s k : Nat} (hs : s < 2 ^ 63) (hk : k < 63) : (lN s >>> ((nI k).toInt64 &&& 63)) &&& 1 = 0 ↔ s.testBit k = false := by
  have e : lN s >>> ((nI k).toInt64 &&& 63) = lN (s / 2 ^ k) := lshr63 hs (by rw [wb_c k (by omega), wb_tb, wb_sm k (by omega), BitVec.toNat_ofNat, Nat.mod_eq_of_lt (by omega)])
  rw [e, wb_a1 (Nat.lt_of_le_of_lt (Nat.div_le_self _ _) (by omega)), lN0 (Nat.lt_of_le_of_lt (Nat.le_of_lt (Nat.mod_lt _ (by decide))) (by decide : 2 < 2 ^ 63)), Nat.testBit_eq_decide_div_mod_eq]
  have := Nat.mod_lt (s / 2 ^ k) (show 0 < 2 by decide)
  constructor
  · intro z; rw [z]; rfl
  · intro z
    have z := of_decide_eq_false z
    omega
/-- the letters when n tokens of the i-th part are spelt -/
def ltS (W : Nat → Int64) (l : List (Nat × Nat)) (i n : Nat) : List Int32 := if n = 0 then ltI W l i else ltI W l i ++ (if 0 < i then [nI 47] else []) ++ ptL W (l.getD i (0, 0)).1 n
theorem ltS_0 {W : Nat → Int64} {l : List (Nat × Nat)} {i : Nat} : ltS W l i 0 = ltI W l i := rfl
theorem ltS_e {W : Nat → Int64} {l : List (Nat × Nat)} {i n : Nat} (h : 0 < n) (e : n = (l.getD i (0, 0)).2 - (l.getD i (0, 0)).1) : ltS W l i n = ltI W l (i + 1) := by
  unfold ltS
  rw [if_neg (by omega), e]
  rfl
theorem ltS_s0 {W : Nat → Int64} {l : List (Nat × Nat)} {i : Nat} (hi : ¬ 0 < i) : ltS W l i 0 ++ wbL (W (l.getD i (0, 0)).1) (bN (W (l.getD i (0, 0)).1)) = ltS W l i 1 := by
  unfold ltS
  rw [if_pos rfl, if_neg (by decide), if_neg hi, List.append_nil]
  show _ = _ ++ ([] ++ tkL W _ (_ + 0))
  unfold tkL
  rw [Nat.add_zero, if_neg (Nat.lt_irrefl _), List.nil_append, List.nil_append]
theorem ltS_s1 {W : Nat → Int64} {l : List (Nat × Nat)} {i : Nat} (hi : 0 < i) : ltS W l i 0 ++ [nI 47] ++ wbL (W (l.getD i (0, 0)).1) (bN (W (l.getD i (0, 0)).1)) = ltS W l i 1 := by
  unfold ltS
  rw [if_pos rfl, if_neg (by decide), if_pos hi]
  show _ = _ ++ ([] ++ tkL W _ (_ + 0))
  unfold tkL
  rw [Nat.add_zero, if_neg (Nat.lt_irrefl _), List.nil_append, List.nil_append]
theorem ltS_s2 {W : Nat → Int64} {l : List (Nat × Nat)} {i n : Nat} (hn : 0 < n) : ltS W l i n ++ [nI 32] ++ wbL (W ((l.getD i (0, 0)).1 + n)) (bN (W ((l.getD i (0, 0)).1 + n))) = ltS W l i (n + 1) := by
  unfold ltS
  rw [if_neg (show ¬ n = 0 by omega), if_neg (show ¬ n + 1 = 0 by omega)]
  show _ = _ ++ (ptL W _ n ++ tkL W _ (_ + n))
  unfold tkL
  rw [if_pos (show (l.getD i (0, 0)).1 < (l.getD i (0, 0)).1 + n by omega)]
  rw [List.append_assoc, List.append_assoc]
theorem ltI_pos {W : Nat → Int64} {l : List (Nat × Nat)} {N : Nat} (hs : srt l N) (hw : ∀ k, k < N → 0 < bN (W k)) : ∀ i, i < l.length → 0 < (ltI W l (i + 1)).length := by
  intro i hi
  have h := hs i hi
  rw [ltI_s, List.length_append]
  have h1 : 0 < (ptL W (l.getD i (0, 0)).1 ((l.getD i (0, 0)).2 - (l.getD i (0, 0)).1)).length := by
    obtain ⟨m, hm⟩ : ∃ m, (l.getD i (0, 0)).2 - (l.getD i (0, 0)).1 = m + 1 := ⟨(l.getD i (0, 0)).2 - (l.getD i (0, 0)).1 - 1, by omega⟩
    rw [hm]
    show 0 < (ptL W _ m ++ tkL W _ (_ + m)).length
    rw [List.length_append]
    unfold tkL
    rw [List.length_append, wbL_len]
    have := hw ((l.getD i (0, 0)).1 + m) (by omega)
    omega
  omega
theorem ltS_pos {W : Nat → Int64} {l : List (Nat × Nat)} {N i n : Nat} (hs : srt l N) (hw : ∀ k, k < N → 0 < bN (W k)) (hi : i < l.length) (hn : n < (l.getD i (0, 0)).2 - (l.getD i (0, 0)).1) : 0 < (ltS W l i n).length ↔ 0 < i ∨ 0 < n := by
  have h := hs i hi
  constructor
  · intro z
    apply Classical.byContradiction
    intro w
    have h1 : i = 0 := by omega
    have h2 : n = 0 := by omega
    subst h1 h2
    exact absurd z (by show ¬ 0 < ([] : List Int32).length; decide)
  · intro z
    by_cases e : n = 0
    · subst e
      obtain ⟨m, rfl⟩ : ∃ m, i = m + 1 := ⟨i - 1, by omega⟩
      exact ltI_pos hs hw m (by omega)
    · unfold ltS
      rw [if_neg e, List.length_append]
      obtain ⟨m, rfl⟩ : ∃ m, n = m + 1 := ⟨n - 1, by omega⟩
      have h3 : 0 < (ptL W (l.getD i (0, 0)).1 (m + 1)).length := by
        show 0 < (ptL W _ m ++ tkL W _ (_ + m)).length
        rw [List.length_append]
        unfold tkL
        rw [List.length_append, wbL_len]
        have := hw ((l.getD i (0, 0)).1 + m) (by omega)
        omega
      omega
theorem wb8 (w : Int64) : (wbL w (bN w)).length ≤ 8 := by rw [wbL_len]; exact bN_le w
theorem ltS_len9 {W : Nat → Int64} {l : List (Nat × Nat)} {i n : Nat} (h : (ltS W l i n).length ≤ 9 * ((l.getD i (0, 0)).1 + n)) : (ltS W l i (n + 1)).length ≤ 9 * ((l.getD i (0, 0)).1 + (n + 1)) := by
  by_cases e : n = 0
  · subst e
    have h1 := wb8 (W (l.getD i (0, 0)).1)
    by_cases z : 0 < i
    · rw [← ltS_s1 z, List.length_append, List.length_append]
      show _ + 1 + _ ≤ _
      omega
    · rw [← ltS_s0 z, List.length_append]
      omega
  · have h1 := wb8 (W ((l.getD i (0, 0)).1 + n))
    rw [← ltS_s2 (by omega), List.length_append, List.length_append]
    show _ + 1 + _ ≤ _
    omega
theorem ltR_360 {ow : Nat → Nat} {h : mH} {a ρ : Nat} {L : List Int32} (e : ltR ow h a ρ L) : L.length ≤ 360 := e.choose_spec.2.1
set_option maxRecDepth 20000 in
theorem pX5_spell {h : mH} {Q : Option Value → mH → Prop} {ow : Nat → Nat} {F p qp a ρ : Nat} {pa my : Nat → Int32} {r : Nat → Int64} {but : Int32} {l : List (Nat × Nat)} {lb : Nat → Int32} {lc : Int32} (zl : zL ow h a ρ lb lc) (hρ : 0 < ρ) (hd : sOK r F pa my) (hp : p < rP r) (pg : pgR ow h qp r p) (hbut : but = -1 ∨ ∃ t, t < rT r p ∧ but = nI t) (hs : srt l (rowL but (rT r p)).length) (h8 : l.length ≤ 8) (hq : ∀ h', cFr [ρ] 0 ow h ow h' → ltR ow h' a ρ (ltA (rwW r p but) l) → Q none h') : Wp mX5_spell 3 67 0 [some (.ref a), some (.ref qp), some (.int but), some (.long (lN (bsA l))), none, some (.long (lN (bsE l))), none, none, none, none, none, none] [] h Q := by
  have hP6 := hd.w.1.2
  have hF4 := hd.f4
  have hT40 := (hd.w.2.1 p (by omega)).2
  have hr40 := rowL_len but (rT r p)
  have hn63 : (rowL but (rT r p)).length < 63 := by omega
  have hn := hn63
  have hw : ∀ k, k < (rowL but (rT r p)).length → 0 < bN (rwW r p but k) := fun k hk => bN_pos (hd.wd p _ hp (rowL_mem9 hk)).1
  have hin : ∀ (i : Nat) (hi9 : i < l.length) (t9 : Nat) (n : Nat) (x11 : Option Value) (h1 : mH), (n ≤ (l.getD i (0, 0)).2 - (l.getD i (0, 0)).1) → (cFr [ρ] 0 ow h ow h1) → (ltR ow h1 a ρ (ltS (rwW r p but) l i n)) → (pgR ow h1 qp r p) → ((ltS (rwW r p but) l i n).length ≤ 9 * ((l.getD i (0, 0)).1 + n)) → ((l.getD i (0, 0)).2 - (l.getD i (0, 0)).1 < n + t9) → (∀ x10 x11 (x12 : Nat) h1, cFr [ρ] 0 ow h ow h1 → ltR ow h1 a ρ (ltI (rwW r p but) l (i + 1)) → pgR ow h1 qp r p → (ltI (rwW r p but) l (i + 1)).length ≤ 9 * (l.getD i (0, 0)).2 → Wp mX5_spell 3 67 130 [some (.ref a), some (.ref qp), some (.int but), some (.long (lN (bsA l))), none, some (.long (lN (bsE l))), none, some (.int (nI l.length)), some (.int (nI i)), some (.int (nI (l.getD i (0, 0)).2)), x10, x11] [] h1 Q) → Wp mX5_spell 3 67 42 [some (.ref a), some (.ref qp), some (.int but), some (.long (lN (bsA l))), none, some (.long (lN (bsE l))), none, some (.int (nI l.length)), some (.int (nI i)), some (.int (nI (l.getD i (0, 0)).2)), some (.int (nI ((l.getD i (0, 0)).1 + n))), x11] [] h1 Q := by
    intro i hi9 t9
    induction t9 with
    | zero => intros; omega
    | succ t9 ihn =>
      intro n x11 h1 hn hf1 le1 pg1 hlen hmz hcont
      have hsi := hs i hi9
      have hr40 := rowL_len but (rT r p)
      refine wp_iload dX5_spell_42 rfl ?_
      refine wp_iload dX5_spell_44 rfl ?_
      refine wp_icmp_geN dX5_spell_46 rfl rfl ⟨by omega, by omega⟩ (fun c2 => ?_) (fun c2 => ?_)
      · have en9 : n = (l.getD i (0, 0)).2 - (l.getD i (0, 0)).1 := by omega
        exact hcont _ _ 0 _ (hf1.up (fun x hx => by simp at hx ⊢; omega) (Nat.le_refl _)) (by rw [← ltS_e (by omega) en9]; exact le1) pg1 (by rw [← ltS_e (by omega) en9]; omega)
      · have hi9 : i < l.length := by omega
        have hsi := hs i hi9
        have hlt9 : (l.getD i (0, 0)).1 + n < (l.getD i (0, 0)).2 := by omega
        refine wp_aload_n dX5_spell_49 rfl rfl ?_
        refine wp_getIV dX5_spell_50 lX5_15 rfl le1.oo le1.f1 ?_
        refine wp_if_leN dX5_spell_53 rfl (by omega) (fun c3 => ?_) (fun c3 => ?_)
        · have hcp : ¬ (0 < i ∨ 0 < n) := fun z => by have := (ltS_pos hs hw hi9 (show n < (l.getD i (0, 0)).2 - (l.getD i (0, 0)).1 by omega)).mpr z; omega
          refine wp_iload_n dX5_spell_78 rfl rfl ?_
          refine wp_iconst (v := (-1)) dX5_spell_79 (by decide +kernel) ?_
          rcases hbut with e8 | ⟨t, ht, e8⟩
          · have hW9 : rwW r p but ((l.getD i (0, 0)).1 + n) = rW r p ((l.getD i (0, 0)).1 + n) := by rw [e8]; exact rwW_m1 hT40 (by have := rowL_len but (rT r p); omega)
            have hpl9 : (l.getD i (0, 0)).1 + n < rT r p := by have := rowL_len but (rT r p); omega
            refine wp_icmp_eq dX5_spell_80 (fun _ => ?_) (fun q => absurd e8 q)
            refine wp_iload dX5_spell_96 rfl ?_
            refine wp_istore (ls1 := [_, _, _, _, _, _, _, _, _, _, _, some _]) dX5_spell_98 (by decide) rfl ?_
            refine wp_aload_n dX5_spell_100 rfl rfl ?_
            refine wp_iload dX5_spell_101 rfl ?_
            refine wp_aload_n dX5_spell_103 rfl rfl ?_
            refine wp_getIV dX5_spell_104 lX5_33 rfl pg1.oo pg1.f0 ?_
            refine wp_icmp_geN dX5_spell_107 rfl rfl ⟨by omega, by omega⟩ (fun q => absurd q (by omega)) (fun _ => ?_)
            refine wp_aload_n dX5_spell_110 rfl rfl ?_
            refine wp_getR dX5_spell_111 lX5_36 rfl pg1.oo pg1.r1 ?_
            refine wp_iload dX5_spell_114 rfl ?_
            refine wp_laldV dX5_spell_116 pg1.a1 rfl ⟨by omega, by omega⟩ (pg1.c1 (by omega)) ?_
            refine wp_goto dX5_spell_117 ?_
            refine wp_cV1 1 21 [some _, some _, none, none] dX5_spell_121 tX5_putText rfl (by decide) nX5_putText vX5_putText lX5_40 ⟨by decide, by decide⟩ (Nat.le_of_ble_eq_true rfl) le1.oo (Nat.le_of_ble_eq_true rfl) rfl ?_
            obtain ⟨x1, hx1, ex1⟩ := w_pos (hd.wd p _ hp hpl9).1
            rw [ex1]
            have hb1 := bN_le (lN x1)
            refine pX5_putText le1 hx1 (by first | omega | (rw [List.length_append]; show _ + 1 + _ ≤ _; omega)) (fun hh1 f1 le_1 => ?_)
            intro _ _
            rw [← ex1, ← hW9] at le_1
            have pg1_1 := pg1.fr f1 (rnS (by omega) rn0)
            refine wp_iinc1 (ls1 := [_, _, _, _, _, _, _, _, _, _, some _, _]) dX5_spell_124 rfl (by decide) rfl ?_
            refine wp_goto dX5_spell_127 ?_
            have en0 : n = 0 := by omega
            subst en0
            have ei0 : ¬ 0 < i := by omega
            have le9 := le_1
            rw [Nat.add_zero, ltS_s0 ei0] at le9
            have hb9 := ltR_360 le9
            refine ihn (0 + 1) _ _ (by omega) ((hf1.up (fun x hx => by simp at hx ⊢; omega) (Nat.le_refl _)).tr (f1.up (fun x hx => by simp at hx ⊢; omega) (Nat.le_refl _))) le9 pg1_1 ?_ (by omega) hcont
            have hbl := ltS_len9 (W := rwW r p _) (l := l) (i := i) (n := 0) hlen
            exact hbl
          · subst e8
            refine wp_icmp_eq dX5_spell_80 (fun q => absurd q (nI_ne_m1 (by omega))) (fun _ => ?_)
            refine wp_iload dX5_spell_83 rfl ?_
            refine wp_iload_n dX5_spell_85 rfl rfl ?_
            refine wp_icmp_ltN dX5_spell_86 rfl rfl ⟨by omega, by omega⟩ (fun c7 => ?_) (fun c7 => ?_)
            · have hW9 := rwT_lo hT40 ht (by assumption)
              have hpl9 : (l.getD i (0, 0)).1 + n < rT r p := by omega
              refine wp_iload dX5_spell_96 rfl ?_
              refine wp_istore (ls1 := [_, _, _, _, _, _, _, _, _, _, _, some _]) dX5_spell_98 (by decide) rfl ?_
              refine wp_aload_n dX5_spell_100 rfl rfl ?_
              refine wp_iload dX5_spell_101 rfl ?_
              refine wp_aload_n dX5_spell_103 rfl rfl ?_
              refine wp_getIV dX5_spell_104 lX5_33 rfl pg1.oo pg1.f0 ?_
              refine wp_icmp_geN dX5_spell_107 rfl rfl ⟨by omega, by omega⟩ (fun q => absurd q (by omega)) (fun _ => ?_)
              refine wp_aload_n dX5_spell_110 rfl rfl ?_
              refine wp_getR dX5_spell_111 lX5_36 rfl pg1.oo pg1.r1 ?_
              refine wp_iload dX5_spell_114 rfl ?_
              refine wp_laldV dX5_spell_116 pg1.a1 rfl ⟨by omega, by omega⟩ (pg1.c1 (by omega)) ?_
              refine wp_goto dX5_spell_117 ?_
              refine wp_cV1 1 21 [some _, some _, none, none] dX5_spell_121 tX5_putText rfl (by decide) nX5_putText vX5_putText lX5_40 ⟨by decide, by decide⟩ (Nat.le_of_ble_eq_true rfl) le1.oo (Nat.le_of_ble_eq_true rfl) rfl ?_
              obtain ⟨x2, hx2, ex2⟩ := w_pos (hd.wd p _ hp hpl9).1
              rw [ex2]
              have hb2 := bN_le (lN x2)
              refine pX5_putText le1 hx2 (by first | omega | (rw [List.length_append]; show _ + 1 + _ ≤ _; omega)) (fun hh2 f2 le_2 => ?_)
              intro _ _
              rw [← ex2, ← hW9] at le_2
              have pg1_2 := pg1.fr f2 (rnS (by omega) rn0)
              refine wp_iinc1 (ls1 := [_, _, _, _, _, _, _, _, _, _, some _, _]) dX5_spell_124 rfl (by decide) rfl ?_
              refine wp_goto dX5_spell_127 ?_
              have en0 : n = 0 := by omega
              subst en0
              have ei0 : ¬ 0 < i := by omega
              have le9 := le_2
              rw [Nat.add_zero, ltS_s0 ei0] at le9
              have hb9 := ltR_360 le9
              refine ihn (0 + 1) _ _ (by omega) ((hf1.up (fun x hx => by simp at hx ⊢; omega) (Nat.le_refl _)).tr (f2.up (fun x hx => by simp at hx ⊢; omega) (Nat.le_refl _))) le9 pg1_2 ?_ (by omega) hcont
              have hbl := ltS_len9 (W := rwW r p _) (l := l) (i := i) (n := 0) hlen
              exact hbl
            · obtain ⟨hW9, hpl9⟩ := rwT_hi hT40 ht (by assumption) (show (l.getD i (0, 0)).1 + n < (rowL (nI t) (rT r p)).length by omega)
              refine wp_iload dX5_spell_89 rfl ?_
              refine wp_iconst (v := (nI 1)) dX5_spell_91 (by decide +kernel) ?_
              refine wp_iadd dX5_spell_92 ?_
              refine wp_goto dX5_spell_93 ?_
              refine wp_istore (ls1 := [_, _, _, _, _, _, _, _, _, _, _, some _]) dX5_spell_98 (by decide) rfl ?_
              refine wp_aload_n dX5_spell_100 rfl rfl ?_
              refine wp_iload dX5_spell_101 rfl ?_
              refine wp_aload_n dX5_spell_103 rfl rfl ?_
              refine wp_getIV dX5_spell_104 lX5_33 rfl pg1.oo pg1.f0 ?_
              refine wp_icmp_geN dX5_spell_107 (isN_add rfl rfl) rfl ⟨by omega, by omega⟩ (fun q => absurd q (by omega)) (fun _ => ?_)
              refine wp_aload_n dX5_spell_110 rfl rfl ?_
              refine wp_getR dX5_spell_111 lX5_36 rfl pg1.oo pg1.r1 ?_
              refine wp_iload dX5_spell_114 rfl ?_
              refine wp_laldV dX5_spell_116 pg1.a1 (isN_add rfl rfl) ⟨by omega, by omega⟩ (pg1.c1 (by omega)) ?_
              refine wp_goto dX5_spell_117 ?_
              refine wp_cV1 1 21 [some _, some _, none, none] dX5_spell_121 tX5_putText rfl (by decide) nX5_putText vX5_putText lX5_40 ⟨by decide, by decide⟩ (Nat.le_of_ble_eq_true rfl) le1.oo (Nat.le_of_ble_eq_true rfl) rfl ?_
              obtain ⟨x3, hx3, ex3⟩ := w_pos (hd.wd p _ hp hpl9).1
              rw [ex3]
              have hb3 := bN_le (lN x3)
              refine pX5_putText le1 hx3 (by first | omega | (rw [List.length_append]; show _ + 1 + _ ≤ _; omega)) (fun hh3 f3 le_3 => ?_)
              intro _ _
              rw [← ex3, ← hW9] at le_3
              have pg1_3 := pg1.fr f3 (rnS (by omega) rn0)
              refine wp_iinc1 (ls1 := [_, _, _, _, _, _, _, _, _, _, some _, _]) dX5_spell_124 rfl (by decide) rfl ?_
              refine wp_goto dX5_spell_127 ?_
              have en0 : n = 0 := by omega
              subst en0
              have ei0 : ¬ 0 < i := by omega
              have le9 := le_3
              rw [Nat.add_zero, ltS_s0 ei0] at le9
              have hb9 := ltR_360 le9
              refine ihn (0 + 1) _ _ (by omega) ((hf1.up (fun x hx => by simp at hx ⊢; omega) (Nat.le_refl _)).tr (f3.up (fun x hx => by simp at hx ⊢; omega) (Nat.le_refl _))) le9 pg1_3 ?_ (by omega) hcont
              have hbl := ltS_len9 (W := rwW r p _) (l := l) (i := i) (n := 0) hlen
              exact hbl
        · have hcp := (ltS_pos hs hw hi9 (show n < (l.getD i (0, 0)).2 - (l.getD i (0, 0)).1 by omega)).mp (by assumption)
          have hbt := bit_in hs hn63 hi9 (show (l.getD i (0, 0)).1 ≤ (l.getD i (0, 0)).1 + n by omega) (by omega)
          refine wp_aload_n dX5_spell_56 rfl rfl ?_
          refine wp_lload_n dX5_spell_57 rfl rfl ?_
          refine wp_iload dX5_spell_58 rfl ?_
          refine wp_lshr dX5_spell_60 ?_
          refine wp_lconst (v := 1) dX5_spell_61 (by decide +kernel) ?_
          refine wp_land dX5_spell_62 ?_
          refine wp_lconst (v := 0) dX5_spell_63 (by decide +kernel) ?_
          refine wp_lc_eq dX5_spell_64 dX5_spell_65 (fun c10 => ?_) (fun c10 => ?_)
          · have hn0 : 0 < n := Nat.pos_of_ne_zero (fun z => by have h9 := (bitL (k := (l.getD i (0, 0)).1 + n) (bs_lt hs hn63).1 (by omega)).mp (by assumption); rw [hbt] at h9; exact absurd (of_decide_eq_false h9) (by omega))
            refine wp_bipush (v := (nI 32)) dX5_spell_73 (by decide +kernel) ?_
            refine wp_cV1 0 0 [some _, some _] dX5_spell_75 tX5_put rfl (by decide) nX5_put vX5_put lX5_29 ⟨by decide, by decide⟩ (Nat.le_of_ble_eq_true rfl) le1.oo (Nat.le_of_ble_eq_true rfl) rfl ?_
            refine pX5_put le1 (by decide) (by omega) (fun hh4 f4 le_4 => ?_)
            intro _ _
            have pg1_4 := pg1.fr f4 (rnS (by omega) rn0)
            refine wp_iload_n dX5_spell_78 rfl rfl ?_
            refine wp_iconst (v := (-1)) dX5_spell_79 (by decide +kernel) ?_
            rcases hbut with e8 | ⟨t, ht, e8⟩
            · have hW9 : rwW r p but ((l.getD i (0, 0)).1 + n) = rW r p ((l.getD i (0, 0)).1 + n) := by rw [e8]; exact rwW_m1 hT40 (by have := rowL_len but (rT r p); omega)
              have hpl9 : (l.getD i (0, 0)).1 + n < rT r p := by have := rowL_len but (rT r p); omega
              refine wp_icmp_eq dX5_spell_80 (fun _ => ?_) (fun q => absurd e8 q)
              refine wp_iload dX5_spell_96 rfl ?_
              refine wp_istore (ls1 := [_, _, _, _, _, _, _, _, _, _, _, some _]) dX5_spell_98 (by decide) rfl ?_
              refine wp_aload_n dX5_spell_100 rfl rfl ?_
              refine wp_iload dX5_spell_101 rfl ?_
              refine wp_aload_n dX5_spell_103 rfl rfl ?_
              refine wp_getIV dX5_spell_104 lX5_33 rfl pg1_4.oo pg1_4.f0 ?_
              refine wp_icmp_geN dX5_spell_107 rfl rfl ⟨by omega, by omega⟩ (fun q => absurd q (by omega)) (fun _ => ?_)
              refine wp_aload_n dX5_spell_110 rfl rfl ?_
              refine wp_getR dX5_spell_111 lX5_36 rfl pg1_4.oo pg1_4.r1 ?_
              refine wp_iload dX5_spell_114 rfl ?_
              refine wp_laldV dX5_spell_116 pg1_4.a1 rfl ⟨by omega, by omega⟩ (pg1_4.c1 (by omega)) ?_
              refine wp_goto dX5_spell_117 ?_
              refine wp_cV1 1 21 [some _, some _, none, none] dX5_spell_121 tX5_putText rfl (by decide) nX5_putText vX5_putText lX5_40 ⟨by decide, by decide⟩ (Nat.le_of_ble_eq_true rfl) le_4.oo (Nat.le_of_ble_eq_true rfl) rfl ?_
              obtain ⟨x5, hx5, ex5⟩ := w_pos (hd.wd p _ hp hpl9).1
              rw [ex5]
              have hb5 := bN_le (lN x5)
              refine pX5_putText le_4 hx5 (by first | omega | (rw [List.length_append]; show _ + 1 + _ ≤ _; omega)) (fun hh5 f5 le_5 => ?_)
              intro _ _
              rw [← ex5, ← hW9] at le_5
              have pg1_5 := pg1_4.fr f5 (rnS (by omega) rn0)
              refine wp_iinc1 (ls1 := [_, _, _, _, _, _, _, _, _, _, some _, _]) dX5_spell_124 rfl (by decide) rfl ?_
              refine wp_goto dX5_spell_127 ?_
              have le9 := le_5
              rw [ltS_s2 hn0] at le9
              have hb9 := ltR_360 le9
              refine ihn (n + 1) _ _ (by omega) (((hf1.up (fun x hx => by simp at hx ⊢; omega) (Nat.le_refl _)).tr (f4.up (fun x hx => by simp at hx ⊢; omega) (Nat.le_refl _))).tr (f5.up (fun x hx => by simp at hx ⊢; omega) (Nat.le_refl _))) le9 pg1_5 ?_ (by omega) hcont
              have hbl := ltS_len9 (W := rwW r p _) (l := l) (i := i) (n := n) hlen
              exact hbl
            · subst e8
              refine wp_icmp_eq dX5_spell_80 (fun q => absurd q (nI_ne_m1 (by omega))) (fun _ => ?_)
              refine wp_iload dX5_spell_83 rfl ?_
              refine wp_iload_n dX5_spell_85 rfl rfl ?_
              refine wp_icmp_ltN dX5_spell_86 rfl rfl ⟨by omega, by omega⟩ (fun c14 => ?_) (fun c14 => ?_)
              · have hW9 := rwT_lo hT40 ht (by assumption)
                have hpl9 : (l.getD i (0, 0)).1 + n < rT r p := by omega
                refine wp_iload dX5_spell_96 rfl ?_
                refine wp_istore (ls1 := [_, _, _, _, _, _, _, _, _, _, _, some _]) dX5_spell_98 (by decide) rfl ?_
                refine wp_aload_n dX5_spell_100 rfl rfl ?_
                refine wp_iload dX5_spell_101 rfl ?_
                refine wp_aload_n dX5_spell_103 rfl rfl ?_
                refine wp_getIV dX5_spell_104 lX5_33 rfl pg1_4.oo pg1_4.f0 ?_
                refine wp_icmp_geN dX5_spell_107 rfl rfl ⟨by omega, by omega⟩ (fun q => absurd q (by omega)) (fun _ => ?_)
                refine wp_aload_n dX5_spell_110 rfl rfl ?_
                refine wp_getR dX5_spell_111 lX5_36 rfl pg1_4.oo pg1_4.r1 ?_
                refine wp_iload dX5_spell_114 rfl ?_
                refine wp_laldV dX5_spell_116 pg1_4.a1 rfl ⟨by omega, by omega⟩ (pg1_4.c1 (by omega)) ?_
                refine wp_goto dX5_spell_117 ?_
                refine wp_cV1 1 21 [some _, some _, none, none] dX5_spell_121 tX5_putText rfl (by decide) nX5_putText vX5_putText lX5_40 ⟨by decide, by decide⟩ (Nat.le_of_ble_eq_true rfl) le_4.oo (Nat.le_of_ble_eq_true rfl) rfl ?_
                obtain ⟨x6, hx6, ex6⟩ := w_pos (hd.wd p _ hp hpl9).1
                rw [ex6]
                have hb6 := bN_le (lN x6)
                refine pX5_putText le_4 hx6 (by first | omega | (rw [List.length_append]; show _ + 1 + _ ≤ _; omega)) (fun hh6 f6 le_6 => ?_)
                intro _ _
                rw [← ex6, ← hW9] at le_6
                have pg1_6 := pg1_4.fr f6 (rnS (by omega) rn0)
                refine wp_iinc1 (ls1 := [_, _, _, _, _, _, _, _, _, _, some _, _]) dX5_spell_124 rfl (by decide) rfl ?_
                refine wp_goto dX5_spell_127 ?_
                have le9 := le_6
                rw [ltS_s2 hn0] at le9
                have hb9 := ltR_360 le9
                refine ihn (n + 1) _ _ (by omega) (((hf1.up (fun x hx => by simp at hx ⊢; omega) (Nat.le_refl _)).tr (f4.up (fun x hx => by simp at hx ⊢; omega) (Nat.le_refl _))).tr (f6.up (fun x hx => by simp at hx ⊢; omega) (Nat.le_refl _))) le9 pg1_6 ?_ (by omega) hcont
                have hbl := ltS_len9 (W := rwW r p _) (l := l) (i := i) (n := n) hlen
                exact hbl
              · obtain ⟨hW9, hpl9⟩ := rwT_hi hT40 ht (by assumption) (show (l.getD i (0, 0)).1 + n < (rowL (nI t) (rT r p)).length by omega)
                refine wp_iload dX5_spell_89 rfl ?_
                refine wp_iconst (v := (nI 1)) dX5_spell_91 (by decide +kernel) ?_
                refine wp_iadd dX5_spell_92 ?_
                refine wp_goto dX5_spell_93 ?_
                refine wp_istore (ls1 := [_, _, _, _, _, _, _, _, _, _, _, some _]) dX5_spell_98 (by decide) rfl ?_
                refine wp_aload_n dX5_spell_100 rfl rfl ?_
                refine wp_iload dX5_spell_101 rfl ?_
                refine wp_aload_n dX5_spell_103 rfl rfl ?_
                refine wp_getIV dX5_spell_104 lX5_33 rfl pg1_4.oo pg1_4.f0 ?_
                refine wp_icmp_geN dX5_spell_107 (isN_add rfl rfl) rfl ⟨by omega, by omega⟩ (fun q => absurd q (by omega)) (fun _ => ?_)
                refine wp_aload_n dX5_spell_110 rfl rfl ?_
                refine wp_getR dX5_spell_111 lX5_36 rfl pg1_4.oo pg1_4.r1 ?_
                refine wp_iload dX5_spell_114 rfl ?_
                refine wp_laldV dX5_spell_116 pg1_4.a1 (isN_add rfl rfl) ⟨by omega, by omega⟩ (pg1_4.c1 (by omega)) ?_
                refine wp_goto dX5_spell_117 ?_
                refine wp_cV1 1 21 [some _, some _, none, none] dX5_spell_121 tX5_putText rfl (by decide) nX5_putText vX5_putText lX5_40 ⟨by decide, by decide⟩ (Nat.le_of_ble_eq_true rfl) le_4.oo (Nat.le_of_ble_eq_true rfl) rfl ?_
                obtain ⟨x7, hx7, ex7⟩ := w_pos (hd.wd p _ hp hpl9).1
                rw [ex7]
                have hb7 := bN_le (lN x7)
                refine pX5_putText le_4 hx7 (by first | omega | (rw [List.length_append]; show _ + 1 + _ ≤ _; omega)) (fun hh7 f7 le_7 => ?_)
                intro _ _
                rw [← ex7, ← hW9] at le_7
                have pg1_7 := pg1_4.fr f7 (rnS (by omega) rn0)
                refine wp_iinc1 (ls1 := [_, _, _, _, _, _, _, _, _, _, some _, _]) dX5_spell_124 rfl (by decide) rfl ?_
                refine wp_goto dX5_spell_127 ?_
                have le9 := le_7
                rw [ltS_s2 hn0] at le9
                have hb9 := ltR_360 le9
                refine ihn (n + 1) _ _ (by omega) (((hf1.up (fun x hx => by simp at hx ⊢; omega) (Nat.le_refl _)).tr (f4.up (fun x hx => by simp at hx ⊢; omega) (Nat.le_refl _))).tr (f7.up (fun x hx => by simp at hx ⊢; omega) (Nat.le_refl _))) le9 pg1_7 ?_ (by omega) hcont
                have hbl := ltS_len9 (W := rwW r p _) (l := l) (i := i) (n := n) hlen
                exact hbl
          · have hn0 : n = 0 := Classical.byContradiction (fun z => (by assumption : ¬ _ = _) ((bitL (bs_lt hs hn63).1 (by omega)).mpr (by rw [hbt]; exact decide_eq_false (by omega))))
            refine wp_bipush (v := (nI 47)) dX5_spell_68 (by decide +kernel) ?_
            refine wp_goto dX5_spell_70 ?_
            refine wp_cV1 0 0 [some _, some _] dX5_spell_75 tX5_put rfl (by decide) nX5_put vX5_put lX5_29 ⟨by decide, by decide⟩ (Nat.le_of_ble_eq_true rfl) le1.oo (Nat.le_of_ble_eq_true rfl) rfl ?_
            refine pX5_put le1 (by decide) (by omega) (fun hh8 f8 le_8 => ?_)
            intro _ _
            have pg1_8 := pg1.fr f8 (rnS (by omega) rn0)
            refine wp_iload_n dX5_spell_78 rfl rfl ?_
            refine wp_iconst (v := (-1)) dX5_spell_79 (by decide +kernel) ?_
            rcases hbut with e8 | ⟨t, ht, e8⟩
            · have hW9 : rwW r p but ((l.getD i (0, 0)).1 + n) = rW r p ((l.getD i (0, 0)).1 + n) := by rw [e8]; exact rwW_m1 hT40 (by have := rowL_len but (rT r p); omega)
              have hpl9 : (l.getD i (0, 0)).1 + n < rT r p := by have := rowL_len but (rT r p); omega
              refine wp_icmp_eq dX5_spell_80 (fun _ => ?_) (fun q => absurd e8 q)
              refine wp_iload dX5_spell_96 rfl ?_
              refine wp_istore (ls1 := [_, _, _, _, _, _, _, _, _, _, _, some _]) dX5_spell_98 (by decide) rfl ?_
              refine wp_aload_n dX5_spell_100 rfl rfl ?_
              refine wp_iload dX5_spell_101 rfl ?_
              refine wp_aload_n dX5_spell_103 rfl rfl ?_
              refine wp_getIV dX5_spell_104 lX5_33 rfl pg1_8.oo pg1_8.f0 ?_
              refine wp_icmp_geN dX5_spell_107 rfl rfl ⟨by omega, by omega⟩ (fun q => absurd q (by omega)) (fun _ => ?_)
              refine wp_aload_n dX5_spell_110 rfl rfl ?_
              refine wp_getR dX5_spell_111 lX5_36 rfl pg1_8.oo pg1_8.r1 ?_
              refine wp_iload dX5_spell_114 rfl ?_
              refine wp_laldV dX5_spell_116 pg1_8.a1 rfl ⟨by omega, by omega⟩ (pg1_8.c1 (by omega)) ?_
              refine wp_goto dX5_spell_117 ?_
              refine wp_cV1 1 21 [some _, some _, none, none] dX5_spell_121 tX5_putText rfl (by decide) nX5_putText vX5_putText lX5_40 ⟨by decide, by decide⟩ (Nat.le_of_ble_eq_true rfl) le_8.oo (Nat.le_of_ble_eq_true rfl) rfl ?_
              obtain ⟨x9, hx9, ex9⟩ := w_pos (hd.wd p _ hp hpl9).1
              rw [ex9]
              have hb9 := bN_le (lN x9)
              refine pX5_putText le_8 hx9 (by first | omega | (rw [List.length_append]; show _ + 1 + _ ≤ _; omega)) (fun hh9 f9 le_9 => ?_)
              intro _ _
              rw [← ex9, ← hW9] at le_9
              have pg1_9 := pg1_8.fr f9 (rnS (by omega) rn0)
              refine wp_iinc1 (ls1 := [_, _, _, _, _, _, _, _, _, _, some _, _]) dX5_spell_124 rfl (by decide) rfl ?_
              refine wp_goto dX5_spell_127 ?_
              subst hn0
              have ei0 : 0 < i := by omega
              have le9 := le_9
              rw [Nat.add_zero, ltS_s1 ei0] at le9
              have hb9 := ltR_360 le9
              refine ihn (0 + 1) _ _ (by omega) (((hf1.up (fun x hx => by simp at hx ⊢; omega) (Nat.le_refl _)).tr (f8.up (fun x hx => by simp at hx ⊢; omega) (Nat.le_refl _))).tr (f9.up (fun x hx => by simp at hx ⊢; omega) (Nat.le_refl _))) le9 pg1_9 ?_ (by omega) hcont
              have hbl := ltS_len9 (W := rwW r p _) (l := l) (i := i) (n := 0) hlen
              exact hbl
            · subst e8
              refine wp_icmp_eq dX5_spell_80 (fun q => absurd q (nI_ne_m1 (by omega))) (fun _ => ?_)
              refine wp_iload dX5_spell_83 rfl ?_
              refine wp_iload_n dX5_spell_85 rfl rfl ?_
              refine wp_icmp_ltN dX5_spell_86 rfl rfl ⟨by omega, by omega⟩ (fun c20 => ?_) (fun c20 => ?_)
              · have hW9 := rwT_lo hT40 ht (by assumption)
                have hpl9 : (l.getD i (0, 0)).1 + n < rT r p := by omega
                refine wp_iload dX5_spell_96 rfl ?_
                refine wp_istore (ls1 := [_, _, _, _, _, _, _, _, _, _, _, some _]) dX5_spell_98 (by decide) rfl ?_
                refine wp_aload_n dX5_spell_100 rfl rfl ?_
                refine wp_iload dX5_spell_101 rfl ?_
                refine wp_aload_n dX5_spell_103 rfl rfl ?_
                refine wp_getIV dX5_spell_104 lX5_33 rfl pg1_8.oo pg1_8.f0 ?_
                refine wp_icmp_geN dX5_spell_107 rfl rfl ⟨by omega, by omega⟩ (fun q => absurd q (by omega)) (fun _ => ?_)
                refine wp_aload_n dX5_spell_110 rfl rfl ?_
                refine wp_getR dX5_spell_111 lX5_36 rfl pg1_8.oo pg1_8.r1 ?_
                refine wp_iload dX5_spell_114 rfl ?_
                refine wp_laldV dX5_spell_116 pg1_8.a1 rfl ⟨by omega, by omega⟩ (pg1_8.c1 (by omega)) ?_
                refine wp_goto dX5_spell_117 ?_
                refine wp_cV1 1 21 [some _, some _, none, none] dX5_spell_121 tX5_putText rfl (by decide) nX5_putText vX5_putText lX5_40 ⟨by decide, by decide⟩ (Nat.le_of_ble_eq_true rfl) le_8.oo (Nat.le_of_ble_eq_true rfl) rfl ?_
                obtain ⟨x10, hx10, ex10⟩ := w_pos (hd.wd p _ hp hpl9).1
                rw [ex10]
                have hb10 := bN_le (lN x10)
                refine pX5_putText le_8 hx10 (by first | omega | (rw [List.length_append]; show _ + 1 + _ ≤ _; omega)) (fun hh10 f10 le_10 => ?_)
                intro _ _
                rw [← ex10, ← hW9] at le_10
                have pg1_10 := pg1_8.fr f10 (rnS (by omega) rn0)
                refine wp_iinc1 (ls1 := [_, _, _, _, _, _, _, _, _, _, some _, _]) dX5_spell_124 rfl (by decide) rfl ?_
                refine wp_goto dX5_spell_127 ?_
                subst hn0
                have ei0 : 0 < i := by omega
                have le9 := le_10
                rw [Nat.add_zero, ltS_s1 ei0] at le9
                have hb9 := ltR_360 le9
                refine ihn (0 + 1) _ _ (by omega) (((hf1.up (fun x hx => by simp at hx ⊢; omega) (Nat.le_refl _)).tr (f8.up (fun x hx => by simp at hx ⊢; omega) (Nat.le_refl _))).tr (f10.up (fun x hx => by simp at hx ⊢; omega) (Nat.le_refl _))) le9 pg1_10 ?_ (by omega) hcont
                have hbl := ltS_len9 (W := rwW r p _) (l := l) (i := i) (n := 0) hlen
                exact hbl
              · obtain ⟨hW9, hpl9⟩ := rwT_hi hT40 ht (by assumption) (show (l.getD i (0, 0)).1 + n < (rowL (nI t) (rT r p)).length by omega)
                refine wp_iload dX5_spell_89 rfl ?_
                refine wp_iconst (v := (nI 1)) dX5_spell_91 (by decide +kernel) ?_
                refine wp_iadd dX5_spell_92 ?_
                refine wp_goto dX5_spell_93 ?_
                refine wp_istore (ls1 := [_, _, _, _, _, _, _, _, _, _, _, some _]) dX5_spell_98 (by decide) rfl ?_
                refine wp_aload_n dX5_spell_100 rfl rfl ?_
                refine wp_iload dX5_spell_101 rfl ?_
                refine wp_aload_n dX5_spell_103 rfl rfl ?_
                refine wp_getIV dX5_spell_104 lX5_33 rfl pg1_8.oo pg1_8.f0 ?_
                refine wp_icmp_geN dX5_spell_107 (isN_add rfl rfl) rfl ⟨by omega, by omega⟩ (fun q => absurd q (by omega)) (fun _ => ?_)
                refine wp_aload_n dX5_spell_110 rfl rfl ?_
                refine wp_getR dX5_spell_111 lX5_36 rfl pg1_8.oo pg1_8.r1 ?_
                refine wp_iload dX5_spell_114 rfl ?_
                refine wp_laldV dX5_spell_116 pg1_8.a1 (isN_add rfl rfl) ⟨by omega, by omega⟩ (pg1_8.c1 (by omega)) ?_
                refine wp_goto dX5_spell_117 ?_
                refine wp_cV1 1 21 [some _, some _, none, none] dX5_spell_121 tX5_putText rfl (by decide) nX5_putText vX5_putText lX5_40 ⟨by decide, by decide⟩ (Nat.le_of_ble_eq_true rfl) le_8.oo (Nat.le_of_ble_eq_true rfl) rfl ?_
                obtain ⟨x11, hx11, ex11⟩ := w_pos (hd.wd p _ hp hpl9).1
                rw [ex11]
                have hb11 := bN_le (lN x11)
                refine pX5_putText le_8 hx11 (by first | omega | (rw [List.length_append]; show _ + 1 + _ ≤ _; omega)) (fun hh11 f11 le_11 => ?_)
                intro _ _
                rw [← ex11, ← hW9] at le_11
                have pg1_11 := pg1_8.fr f11 (rnS (by omega) rn0)
                refine wp_iinc1 (ls1 := [_, _, _, _, _, _, _, _, _, _, some _, _]) dX5_spell_124 rfl (by decide) rfl ?_
                refine wp_goto dX5_spell_127 ?_
                subst hn0
                have ei0 : 0 < i := by omega
                have le9 := le_11
                rw [Nat.add_zero, ltS_s1 ei0] at le9
                have hb9 := ltR_360 le9
                refine ihn (0 + 1) _ _ (by omega) (((hf1.up (fun x hx => by simp at hx ⊢; omega) (Nat.le_refl _)).tr (f8.up (fun x hx => by simp at hx ⊢; omega) (Nat.le_refl _))).tr (f11.up (fun x hx => by simp at hx ⊢; omega) (Nat.le_refl _))) le9 pg1_11 ?_ (by omega) hcont
                have hbl := ltS_len9 (W := rwW r p _) (l := l) (i := i) (n := 0) hlen
                exact hbl
  have hout : ∀  (t9 : Nat) (i : Nat) (x9 : Option Value) (x10 : Option Value) (x11 : Option Value) (h1 : mH), (i ≤ l.length) → (cFr [ρ] 0 ow h ow h1) → (ltR ow h1 a ρ (ltI (rwW r p but) l i)) → (pgR ow h1 qp r p) → (i < l.length → (ltI (rwW r p but) l i).length ≤ 9 * (l.getD i (0, 0)).1) → (l.length < i + t9) → Wp mX5_spell 3 67 14 [some (.ref a), some (.ref qp), some (.int but), some (.long (lN (bsA l))), none, some (.long (lN (bsE l))), none, some (.int (nI l.length)), some (.int (nI i)), x9, x10, x11] [] h1 Q := by
    intro t9
    induction t9 with
    | zero => intros; omega
    | succ t9 ih =>
      intro i x9 x10 x11 h1 hi hf1 le1 pg1 hlen hmz
      refine wp_iload dX5_spell_14 rfl ?_
      refine wp_iload dX5_spell_16 rfl ?_
      refine wp_icmp_geN dX5_spell_18 rfl rfl ⟨by omega, by omega⟩ (fun c2 => ?_) (fun c2 => ?_)
      · refine wp_vreturn dX5_spell_136 rfl ?_
        have ei9 : i = l.length := by omega
        subst ei9
        exact hq _ (hf1.up (fun x hx => by simp at hx ⊢; omega) (Nat.le_refl _)) le1
      · refine wp_aload_n dX5_spell_21 rfl rfl ?_
        refine wp_ifnull dX5_spell_22 ?_
        have hi9 : i < l.length := by omega
        have hsi := hs i hi9
        refine wp_lload dX5_spell_25 rfl ?_
        refine wp_iload dX5_spell_27 rfl ?_
        refine wp_cSN2 2 42 [some _, none, some _, none, none, none] dX5_spell_29 tX11_nth sX11_nth lX5_25 ⟨by decide, by decide⟩ (Nat.le_of_ble_eq_true rfl) (Nat.le_of_ble_eq_true rfl) rfl ?_
        refine pX11_nth (srt_asc hs hn).2 (by rw [List.length_map]; omega) (by rw [List.length_map]; omega) ?_
        intro _ _
        rw [map_getD rfl]
        refine wp_istore (ls1 := [_, _, _, _, _, _, _, _, _, some _, _, _]) dX5_spell_32 (by decide) rfl ?_
        refine wp_lload_n dX5_spell_34 rfl rfl ?_
        refine wp_iload dX5_spell_35 rfl ?_
        refine wp_cSN2 2 42 [some _, none, some _, none, none, none] dX5_spell_37 tX11_nth sX11_nth lX5_25 ⟨by decide, by decide⟩ (Nat.le_of_ble_eq_true rfl) (Nat.le_of_ble_eq_true rfl) rfl ?_
        refine pX11_nth (srt_asc hs hn).1 (by rw [List.length_map]; omega) (by rw [List.length_map]; omega) ?_
        intro _ _
        rw [map_getD rfl]
        have hlen9 : (ltS (rwW r p but) l i 0).length ≤ 9 * ((l.getD i (0, 0)).1 + 0) := hlen hi9
        refine wp_istore (ls1 := [_, _, _, _, _, _, _, _, _, _, some _, _]) dX5_spell_40 (by decide) rfl ?_
        refine hin i hi9 ((l.getD i (0, 0)).2 - (l.getD i (0, 0)).1 + 1) 0 _ _ (by omega) (hf1.up (fun x hx => by simp at hx ⊢; omega) (Nat.le_refl _)) le1 pg1 hlen9 (by omega) ?_
        intro x10 x11 x12 h2 hf2 le2 pg2 hl2
        refine wp_iinc1 (ls1 := [_, _, _, _, _, _, _, _, some _, _, _, _]) dX5_spell_130 rfl (by decide) rfl ?_
        refine wp_goto dX5_spell_133 ?_
        refine ih (i + 1) _ _ _ _ (by omega) hf2 le2 pg2 ?_ (by omega)
        intro hi2
        have := hsi.2.2 hi2
        omega
  refine wp_aload_n dX5_spell_0 rfl rfl ?_
  refine wp_iconst (v := (nI 0)) dX5_spell_1 (by decide +kernel) ?_
  refine wp_putI dX5_spell_2 lX5_15 rfl (Or.inl rfl) zl.o rfl rfl ?_
  refine zl.p1 (fun hh1 f1 zl_1 => ?_)
  have pg_1 := pg.fr f1 (rnS (by omega) rn0)
  refine wp_lload_n dX5_spell_5 rfl rfl ?_
  refine wp_cS1 0 0 [some _, none] dX5_spell_6 tJ13_bitCount_95d88 sJ13_bitCount_95d88 lX5_19 ⟨by decide, by decide⟩ (Nat.le_of_ble_eq_true rfl) (Nat.le_of_ble_eq_true rfl) rfl ?_
  refine pJ13_bitCount_95d88 (Nat.lt_trans (bs_lt hs hn63).1 (by decide)) ?_
  intro _ _
  rw [show pop (bsA l) = l.length from (bsN_pop (srt_asc hs hn63).1).trans (List.length_map ..)]
  refine wp_istore (ls1 := [_, _, _, _, _, _, _, some _, _, _, _, _]) dX5_spell_9 (by decide) rfl ?_
  refine wp_iconst (v := (nI 0)) dX5_spell_11 (by decide +kernel) ?_
  refine wp_istore (ls1 := [_, _, _, _, _, _, _, _, some _, _, _, _]) dX5_spell_12 (by decide) rfl ?_
  exact hout (l.length + 1) 0 _ _ _ _ (by omega) (f1.up (fun x hx => by simp at hx ⊢; omega) (Nat.le_refl _)) ⟨_, zl_1, Nat.zero_le _, fun j hj => absurd hj (Nat.not_lt_zero j), fun j hj => absurd hj (Nat.not_lt_zero j)⟩ pg_1 (fun _ => Nat.zero_le _) (by omega)
