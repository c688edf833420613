/-! ===== votes ===== -/
theorem l_sh12 {x c : Nat} (hc : c < 4096) (hx : x * 4096 + c < 2 ^ 64) : (lN x <<< ((nI 12).toInt64 &&& 63)) ||| (nI c).toInt64 = lN (x * 4096 + c) := by
  rw [wb_shl x (by decide), nI_l (by omega)]
  exact g_or (k := 12) (by decide) hc hx
theorem i_sh6 {a b : Nat} (ha : a < 64) (hb : b < 64) : (nI a <<< (nI 6 &&& 31)) ||| nI b = nI (a * 64 + b) := by
  have h := pk_shlN (n := a) (nI 6 &&& 31) 6 (s_l 6 (by omega)) (by omega)
  rw [h, nx_or]
  congr 1
  have := Nat.shiftLeft_add_eq_or_of_lt (i := 6) (show b < 2 ^ 6 by omega) a
  rw [Nat.shiftLeft_eq] at this
  exact this.symm
def upN {α : Type} (g : Nat → α) (i : Nat) (v : α) : Nat → α := fun x => if x = i then v else g x
theorem upN_at {α : Type} (g : Nat → α) (i : Nat) (v : α) : upN g i v i = v := if_pos rfl
theorem upN_ne {α : Type} {g : Nat → α} {i x : Nat} {v : α} (h : x ≠ i) : upN g i v x = g x := if_neg h
def voH (h : mH) (N : Nat) (OL : Nat → List (Nat × Nat)) (V FK T : Nat → Nat) : Prop := hI h 153 60 = nI N ∧ (∀ o, o < N → (hL h 185 o = lN (pk1 (OL o)) ∧ hL h 186 o = lN (pk2 (OL o))) ∧ (hL h 187 o = lN (FK o) ∧ FK o < 1099511627776) ∧ hI h 188 o = nI (V o) ∧ okP (OL o)) ∧ (∀ s, s < 32768 → hI h 189 s = nI (T s)) ∧ hsh vH OL N T ∧ ∀ o o', o < N → o' < N → OL o = OL o' → o = o'
theorem voH.fr {h h1 : mH} {N : Nat} {OL : Nat → List (Nat × Nat)} {V FK T : Nat → Nat} {F A : List Nat} (q : voH h N OL V FK T) (g : mFr (mP F A) h h1) (q1 : 60 ∉ F) (q2 : 153 ∉ A ∧ 185 ∉ A ∧ 186 ∉ A ∧ 187 ∉ A ∧ 188 ∉ A ∧ 189 ∉ A) : voH h1 N OL V FK T := by
  refine ⟨(g.fI 60 q1 q2.1).trans q.1, ?_, ?_, q.2.2.2⟩
  · rw [g.Lr (by decide) q2.2.1, g.Lr (by decide) q2.2.2.1, g.Lr (by decide) q2.2.2.2.1, g.Ir (by decide) q2.2.2.2.2.1]
    exact q.2.1
  · rw [g.Ir (by decide) q2.2.2.2.2.2]
    exact q.2.2.1
theorem vo_new {h h' : mH} {N k d : Nat} {OL : Nat → List (Nat × Nat)} {V FK T : Nat → Nat} {l : List (Nat × Nat)} (q : voH h N OL V FK T) (hk : k < 1099511627776) (hl : okP l) (hno : ∀ o, o < N → OL o ≠ l) (hw : ∀ e, e < d → T ((vH l + e) % 32768) ≠ 0) (h0 : T ((vH l + d) % 32768) = 0) (e1 : hI h' 153 60 = nI (N + 1)) (e5 : hL h' 185 = up1 (hL h 185) N (lN (pk1 l))) (e6 : hL h' 186 = up1 (hL h 186) N (lN (pk2 l))) (e7 : hL h' 187 = up1 (hL h 187) N (lN k)) (e8 : hI h' 188 = upI (upI (hI h 188) N (nI 0)) N (nI 1)) (e9 : hI h' 189 = upI (hI h 189) ((vH l + d) % 32768) (nI (N + 1))) : voH h' (N + 1) (upN OL N l) (upN V N 1) (upN FK N k) (upN T ((vH l + d) % 32768) (N + 1)) := by
  refine ⟨e1, fun o ho => ?_, fun s hs => ?_, hsh_add q.2.2.2.1 hw h0, fun o o' ho ho' e => ?_⟩
  · rw [e5, e6, e7, e8]
    by_cases c : o = N
    · subst c
      rw [up1_at, up1_at, up1_at, upI_at, upN_at, upN_at, upN_at]
      exact ⟨⟨rfl, rfl⟩, ⟨rfl, hk⟩, rfl, hl⟩
    · rw [up1_ne c, up1_ne c, up1_ne c, upI_ne c, upI_ne c, upN_ne c, upN_ne c, upN_ne c]
      exact q.2.1 o (by omega)
  · rw [e9]
    by_cases c : s = (vH l + d) % 32768
    · rw [c, upI_at, upN_at]
    · rw [upI_ne c, upN_ne c]
      exact q.2.2.1 s hs
  · by_cases c : o = N
    · by_cases c' : o' = N
      · omega
      · rw [c, upN_at, upN_ne c'] at e
        exact absurd e.symm (hno o' (by omega))
    · by_cases c' : o' = N
      · rw [c', upN_at, upN_ne c] at e
        exact absurd e (hno o (by omega))
      · rw [upN_ne c, upN_ne c'] at e
        exact q.2.2.2.2 o o' (by omega) (by omega) e
theorem vo_old {h h' : mH} {N k j : Nat} {OL : Nat → List (Nat × Nat)} {V FK T : Nat → Nat} {U7 : Nat → Int64} (q : voH h N OL V FK T) (hk : k < 1099511627776) (hj : j < N) (e1 : hI h' 153 60 = nI N) (e5 : hL h' 185 = hL h 185) (e6 : hL h' 186 = hL h 186) (e7 : hL h' 187 = U7) (hU : U7 j = lN (min (FK j) k) ∧ ∀ o, o ≠ j → U7 o = hL h 187 o) (e8 : hI h' 188 = upI (hI h 188) j (nI (V j + 1))) (e9 : hI h' 189 = hI h 189) : voH h' N OL (upN V j (V j + 1)) (upN FK j (min (FK j) k)) T := by
  refine ⟨e1, fun o ho => ?_, ?_, q.2.2.2.1, q.2.2.2.2⟩
  · rw [e5, e6, e7, e8]
    have h9 := q.2.1 o ho
    by_cases c : o = j
    · subst c
      rw [upI_at, upN_at, upN_at, hU.1]
      exact ⟨h9.1, ⟨rfl, by omega⟩, rfl, h9.2.2.2⟩
    · rw [upI_ne c, upN_ne c, upN_ne c, hU.2 o c]
      exact h9
  · rw [e9]
    exact q.2.2.1
theorem pkN_b {l : List (Nat × Nat)} {s j : Nat} (hl : okP l) (hb : pkN l s j < 4096 ^ j * 2) (_hj : j ≤ 4) : pkN l s (j + 1) < 4096 ^ (j + 1) * 2 := by
  have := cd_lt hl (s + j)
  show pkN l s j * 4096 + cd l (s + j) < _
  rw [Nat.pow_succ]
  omega
theorem pkN_c {l : List (Nat × Nat)} {s j : Nat} (hl : okP l) (hb : pkN l s j < 4096 ^ j * 2) (hj : j < 4) : pkN l s j * 4096 + cd l (s + j) < 2 ^ 64 := by
  have := cd_lt hl (s + j)
  have h2 : 4096 ^ j ≤ 4096 ^ 3 := Nat.pow_le_pow_right (by decide) (by omega)
  have h3 : 4096 ^ 3 = 68719476736 := by decide
  omega
set_option maxRecDepth 20000 in
theorem pX12_packed {h : mH} {Q : Option Value → mH → Prop} {l : List (Nat × Nat)} {s n : Nat} (hs : mS h) (hk : cutsOK h l) (hl : okP l) (hn : n ≤ 4) (hs4 : s ≤ 4) (hq : Q (some (.long (lN (pkN l s n)))) h) : Wp mX12_packed 0 0 0 [some (.ref 153), some (.int (nI s)), some (.int (nI (s + n))), none, none, none] [] h Q := by
  have hloop : ∀  (t9 : Nat) (j : Nat), (j ≤ n) → (pkN l s j < 4096 ^ j * 2) → (n < j + t9) → Wp mX12_packed 0 0 5 [some (.ref 153), some (.int (nI s)), some (.int (nI (s + n))), some (.long (lN (pkN l s j))), none, some (.int (nI (s + j)))] [] h Q := by
    intro t9
    induction t9 with
    | zero => intros; omega
    | succ t9 ih =>
      intro j hj hb hmz
      refine wp_iload dX12_packed_5 rfl ?_
      refine wp_iload_n dX12_packed_7 rfl rfl ?_
      refine wp_icmp_geN dX12_packed_8 rfl rfl ⟨by omega, by omega⟩ (fun c1 => ?_) (fun c1 => ?_)
      · refine wp_lload_n dX12_packed_55 rfl rfl ?_
        refine wp_lreturn dX12_packed_56 rfl ?_
        have e9 : j = n := by omega
        subst e9
        exact hq
      · refine wp_lload_n dX12_packed_11 rfl rfl ?_
        refine wp_bipush (v := (nI 12)) dX12_packed_12 (by decide +kernel) ?_
        refine wp_lshl dX12_packed_14 ?_
        refine wp_iload dX12_packed_15 rfl ?_
        refine wp_aload_n dX12_packed_17 rfl rfl ?_
        refine wp_getIV dX12_packed_18 lX12_337 rfl (mO hs) hk.1 ?_
        refine wp_icmp_geN dX12_packed_21 rfl rfl ⟨by omega, by have := hk.2.1; omega⟩ (fun c2 => ?_) (fun c2 => ?_)
        · refine wp_iconst (v := (nI 0)) dX12_packed_45 (by decide +kernel) ?_
          refine wp_i2l dX12_packed_46 ?_
          refine wp_lor dX12_packed_47 ?_
          refine wp_lstore_n (ls1 := [_, _, _, some _, _, _]) dX12_packed_48 rfl (by decide) rfl ?_
          refine wp_iinc1 (ls1 := [_, _, _, _, _, some _]) dX12_packed_49 rfl (by decide) rfl ?_
          refine wp_goto dX12_packed_52 ?_
          rw [show nI 0 = nI (cd l (s + j)) from congrArg nI (if_neg (by omega)).symm, l_sh12 (cd_lt hl _) (pkN_c hl hb (by omega))]
          exact ih (j + 1) (by omega) (pkN_b hl hb (by omega)) (by omega)
        · refine wp_aload_n dX12_packed_24 rfl rfl ?_
          refine wp_getR dX12_packed_25 lX12_64 rfl (mO hs) (mR_cutFrom hs) ?_
          refine wp_iload dX12_packed_28 rfl ?_
          refine wp_ialdV dX12_packed_30 (mA_cutFrom hs) rfl ⟨by have := hk.2.1; omega, by decide⟩ (hk.2.2 (s + j) (by omega)).1 ?_
          refine wp_bipush (v := (nI 6)) dX12_packed_31 (by decide +kernel) ?_
          refine wp_ishl dX12_packed_33 ?_
          refine wp_aload_n dX12_packed_34 rfl rfl ?_
          refine wp_getR dX12_packed_35 lX12_67 rfl (mO hs) (mR_cutTo hs) ?_
          refine wp_iload dX12_packed_38 rfl ?_
          refine wp_ialdV dX12_packed_40 (mA_cutTo hs) rfl ⟨by have := hk.2.1; omega, by decide⟩ (hk.2.2 (s + j) (by omega)).2.1 ?_
          refine wp_ior dX12_packed_41 ?_
          refine wp_goto dX12_packed_42 ?_
          refine wp_i2l dX12_packed_46 ?_
          refine wp_lor dX12_packed_47 ?_
          refine wp_lstore_n (ls1 := [_, _, _, some _, _, _]) dX12_packed_48 rfl (by decide) rfl ?_
          refine wp_iinc1 (ls1 := [_, _, _, _, _, some _]) dX12_packed_49 rfl (by decide) rfl ?_
          refine wp_goto dX12_packed_52 ?_
          rw [i_sh6 (hl.2 _ (by omega)).1 (hl.2 _ (by omega)).2.2, show (l.getD (s + j) (0, 0)).1 * 64 + (l.getD (s + j) (0, 0)).2 = cd l (s + j) from (if_pos (by omega)).symm, l_sh12 (cd_lt hl _) (pkN_c hl hb (by omega))]
          exact ih (j + 1) (by omega) (pkN_b hl hb (by omega)) (by omega)
  refine wp_lconst (v := 1) dX12_packed_0 (by decide +kernel) ?_
  refine wp_lstore_n (ls1 := [_, _, _, some _, _, _]) dX12_packed_1 rfl (by decide) rfl ?_
  refine wp_iload_n dX12_packed_2 rfl rfl ?_
  refine wp_istore (ls1 := [_, _, _, _, _, some _]) dX12_packed_3 (by decide) rfl ?_
  exact hloop (n + 1) 0 (by omega) (show 1 < 4096 ^ 0 * 2 by decide) (by omega)
set_option maxRecDepth 20000 in
theorem vote_loop {h : mH} {Q : Option Value → mH → Prop} {N k : Nat} {OL : Nat → List (Nat × Nat)} {V FK T : Nat → Nat} {l : List (Nat × Nat)} (hs : mS h) (q : voH h N OL V FK T) (hN : N < 12000) (hl : okP l) (K1 : ∀ d, (∀ e, e < d → T ((vH l + e) % 32768) ≠ 0 ∧ OL (T ((vH l + e) % 32768) - 1) ≠ l) → T ((vH l + d) % 32768) = 0 → Wp mX12_votes 1 25 100 [some (.ref 153), some (.long (lN k)), none, some (.long (lN (pk1 l))), none, some (.long (lN (pk2 l))), none, some (.int (nI ((vH l + d) % 32768))), none] [] h Q) (K2 : ∀ s j, s < 32768 → T s = j + 1 → j < N → OL j = l → Wp mX12_votes 1 25 100 [some (.ref 153), some (.long (lN k)), none, some (.long (lN (pk1 l))), none, some (.long (lN (pk2 l))), none, some (.int (nI s)), none] [] h Q) : Wp mX12_votes 1 25 38 [some (.ref 153), some (.long (lN k)), none, some (.long (lN (pk1 l))), none, some (.long (lN (pk2 l))), none, some (.int (nI (vH l))), none] [] h Q := by
  obtain ⟨d0, hd0, e0⟩ := hsh_free q.2.2.2.1 (by omega) (vH l)
  have hloop : ∀  (m : Nat) (d : Nat), (∀ e, e < d → T ((vH l + e) % 32768) ≠ 0 ∧ OL (T ((vH l + e) % 32768) - 1) ≠ l) → (∀ e, e < d → e < d0) → (d0 < d + m) → Wp mX12_votes 1 25 38 [some (.ref 153), some (.long (lN k)), none, some (.long (lN (pk1 l))), none, some (.long (lN (pk2 l))), none, some (.int (nI ((vH l + d) % 32768))), none] [] h Q := by
    intro m
    induction m with
    | zero => intros; rename_i hz9 hz8; exact absurd (hz9 d0 (by omega)) (by omega)
    | succ m ih =>
      intro d hw hd0 hmz
      have hdd : d ≤ d0 := by
        rcases Nat.lt_or_ge d0 d with z | z
        · exact absurd (hd0 d0 z) (by omega)
        · exact z
      refine wp_aload_n dX12_votes_38 rfl rfl ?_
      refine wp_getR dX12_votes_39 lX12_125 rfl (mO hs) (mR_voteAt hs) ?_
      refine wp_iload dX12_votes_42 rfl ?_
      refine wp_ialdV dX12_votes_44 (mA_voteAt hs) rfl ⟨Nat.mod_lt _ (by decide), by decide⟩ (q.2.2.1 ((vH l + d) % 32768) (Nat.mod_lt _ (by decide))) ?_
      refine wp_if_eqN dX12_votes_45 rfl (by have := q.2.2.2.1.1 ((vH l + d) % 32768) (Nat.mod_lt _ (by decide)); omega) (fun c1 => ?_) (fun c1 => ?_)
      · exact K1 d hw (by assumption)
      · refine wp_aload_n dX12_votes_48 rfl rfl ?_
        refine wp_getR dX12_votes_49 lX12_113 rfl (mO hs) (mR_firstParts hs) ?_
        refine wp_aload_n dX12_votes_52 rfl rfl ?_
        refine wp_getR dX12_votes_53 lX12_125 rfl (mO hs) (mR_voteAt hs) ?_
        refine wp_iload dX12_votes_56 rfl ?_
        refine wp_ialdV dX12_votes_58 (mA_voteAt hs) rfl ⟨Nat.mod_lt _ (by decide), by decide⟩ (q.2.2.1 ((vH l + d) % 32768) (Nat.mod_lt _ (by decide))) ?_
        refine wp_iconst (v := (nI 1)) dX12_votes_59 (by decide +kernel) ?_
        refine wp_isub dX12_votes_60 ?_
        refine wp_laldV dX12_votes_61 (mA_firstParts hs) (isN_sub rfl rfl (by omega)) ⟨by have := q.2.2.2.1.1 ((vH l + d) % 32768) (Nat.mod_lt _ (by decide)); omega, by decide⟩ (q.2.1 _ (by have := q.2.2.2.1.1 ((vH l + d) % 32768) (Nat.mod_lt _ (by decide)); omega)).1.1 ?_
        refine wp_lload_n dX12_votes_62 rfl rfl ?_
        refine wp_lc_ne dX12_votes_63 dX12_votes_64 (fun c2 => ?_) (fun c2 => ?_)
        · refine wp_iload dX12_votes_87 rfl ?_
          refine wp_iconst (v := (nI 1)) dX12_votes_89 (by decide +kernel) ?_
          refine wp_iadd dX12_votes_90 ?_
          refine wp_sipush (v := (nI 32767)) dX12_votes_91 (by decide +kernel) ?_
          refine wp_iand dX12_votes_94 ?_
          refine wp_istore (ls1 := [_, _, _, _, _, _, _, some _, _]) dX12_votes_95 (by decide) rfl ?_
          refine wp_goto dX12_votes_97 ?_
          rw [nx_mod15 (Nat.mod_lt _ (by decide)), show ((vH l + d) % 32768 + 1) % 32768 = (vH l + (d + 1)) % 32768 by omega]
          refine ih (d + 1) ?_ ?_ (by omega)
          · intro e he
            by_cases z : e = d
            · subst z
              exact ⟨by omega, fun z1 => by first | exact absurd (congrArg (fun y => lN (pk1 y)) z1) (by assumption) | exact absurd (congrArg (fun y => lN (pk2 y)) z1) (by assumption)⟩
            · exact hw e (by omega)
          · intro e he
            by_cases z : e = d
            · subst z
              exact Nat.lt_of_le_of_ne hdd (fun z1 => by subst z1; omega)
            · exact hd0 e (by omega)
        · refine wp_aload_n dX12_votes_67 rfl rfl ?_
          refine wp_getR dX12_votes_68 lX12_116 rfl (mO hs) (mR_lastParts hs) ?_
          refine wp_aload_n dX12_votes_71 rfl rfl ?_
          refine wp_getR dX12_votes_72 lX12_125 rfl (mO hs) (mR_voteAt hs) ?_
          refine wp_iload dX12_votes_75 rfl ?_
          refine wp_ialdV dX12_votes_77 (mA_voteAt hs) rfl ⟨Nat.mod_lt _ (by decide), by decide⟩ (q.2.2.1 ((vH l + d) % 32768) (Nat.mod_lt _ (by decide))) ?_
          refine wp_iconst (v := (nI 1)) dX12_votes_78 (by decide +kernel) ?_
          refine wp_isub dX12_votes_79 ?_
          refine wp_laldV dX12_votes_80 (mA_lastParts hs) (isN_sub rfl rfl (by omega)) ⟨by have := q.2.2.2.1.1 ((vH l + d) % 32768) (Nat.mod_lt _ (by decide)); omega, by decide⟩ (q.2.1 _ (by have := q.2.2.2.1.1 ((vH l + d) % 32768) (Nat.mod_lt _ (by decide)); omega)).1.2 ?_
          refine wp_lload dX12_votes_81 rfl ?_
          refine wp_lc_eq dX12_votes_83 dX12_votes_84 (fun c3 => ?_) (fun c3 => ?_)
          · have hj9 : T ((vH l + d) % 32768) - 1 < N := by have := q.2.2.2.1.1 ((vH l + d) % 32768) (Nat.mod_lt _ (by decide)); omega
            have ok9 := (q.2.1 _ hj9).2.2.2
            exact K2 _ _ (Nat.mod_lt _ (by decide)) (show T ((vH l + d) % 32768) = (T ((vH l + d) % 32768) - 1) + 1 by omega) hj9 (pk_inj ok9 hl ((pk_lEQ (by have := pkk_lt ok9; omega) (by have := pkk_lt hl; omega)).mp (by assumption)) ((pk_lEQ (by have := pkk_lt ok9; omega) (by have := pkk_lt hl; omega)).mp (by assumption)))
          · refine wp_iload dX12_votes_87 rfl ?_
            refine wp_iconst (v := (nI 1)) dX12_votes_89 (by decide +kernel) ?_
            refine wp_iadd dX12_votes_90 ?_
            refine wp_sipush (v := (nI 32767)) dX12_votes_91 (by decide +kernel) ?_
            refine wp_iand dX12_votes_94 ?_
            refine wp_istore (ls1 := [_, _, _, _, _, _, _, some _, _]) dX12_votes_95 (by decide) rfl ?_
            refine wp_goto dX12_votes_97 ?_
            rw [nx_mod15 (Nat.mod_lt _ (by decide)), show ((vH l + d) % 32768 + 1) % 32768 = (vH l + (d + 1)) % 32768 by omega]
            refine ih (d + 1) ?_ ?_ (by omega)
            · intro e he
              by_cases z : e = d
              · subst z
                exact ⟨by omega, fun z1 => by first | exact absurd (congrArg (fun y => lN (pk1 y)) z1) (by assumption) | exact absurd (congrArg (fun y => lN (pk2 y)) z1) (by assumption)⟩
              · exact hw e (by omega)
            · intro e he
              by_cases z : e = d
              · subst z
                exact Nat.lt_of_le_of_ne hdd (fun z1 => by subst z1; omega)
              · exact hd0 e (by omega)
  have := hloop (d0 + 1) 0 (fun e he => by omega) (fun e he => by omega) (by omega)
  rw [Nat.add_zero, Nat.mod_eq_of_lt (vH_e l).2] at this
  exact this
set_option maxRecDepth 20000 in
theorem vote_new {h : mH} {Q : Option Value → mH → Prop} {N k : Nat} {OL : Nat → List (Nat × Nat)} {V FK T : Nat → Nat} {l : List (Nat × Nat)} {d : Nat} (hs : mS h) (q : voH h N OL V FK T) (hN : N < 12000) (hk : k < 1099511627776) (hl : okP l) (hw : ∀ e, e < d → T ((vH l + e) % 32768) ≠ 0 ∧ OL (T ((vH l + e) % 32768) - 1) ≠ l) (h0 : T ((vH l + d) % 32768) = 0) (hnew : (∀ o, o < N → OL o ≠ l) → ∀ h' T', mFr (mP [60] [185, 186, 187, 188, 189]) h h' → voH h' (N + 1) (upN OL N l) (upN V N 1) (upN FK N k) T' → Q none h') : Wp mX12_votes 1 25 100 [some (.ref 153), some (.long (lN k)), none, some (.long (lN (pk1 l))), none, some (.long (lN (pk2 l))), none, some (.int (nI ((vH l + d) % 32768))), none] [] h Q := by
  refine wp_aload_n dX12_votes_100 rfl rfl ?_
  refine wp_getR dX12_votes_101 lX12_125 rfl (mO hs) (mR_voteAt hs) ?_
  refine wp_iload dX12_votes_104 rfl ?_
  refine wp_ialdV dX12_votes_106 (mA_voteAt hs) rfl ⟨Nat.mod_lt _ (by decide), by decide⟩ ((q.2.2.1 ((vH l + d) % 32768) (Nat.mod_lt _ (by decide))).trans (congrArg nI h0)) ?_
  refine wp_if_ne dX12_votes_107 (fun q => absurd q (by decide +kernel)) (fun _ => ?_)
  refine wp_aload_n dX12_votes_110 rfl rfl ?_
  refine wp_getR dX12_votes_111 lX12_113 rfl (mO hs) (mR_firstParts hs) ?_
  refine wp_aload_n dX12_votes_114 rfl rfl ?_
  refine wp_getIV dX12_votes_115 lX12_517 rfl (mO hs) q.1 ?_
  refine wp_lload_n dX12_votes_118 rfl rfl ?_
  refine wp_lastN dX12_votes_119 (mA_firstParts hs) rfl ⟨by omega, by decide⟩ ?_
  refine sealAL (rfl : hL h 185 = hL h 185) (fun hh1 f1 e1 => ?_)
  have S1 := f1.s hs
  have efI60_1 := (f1.fI 60 (by decide) (by decide)).trans q.1
  have eL186_1 := (f1.Lr (by decide) (by decide)).trans (rfl : hL h 186 = hL h 186)
  have eL187_1 := (f1.Lr (by decide) (by decide)).trans (rfl : hL h 187 = hL h 187)
  have eI188_1 := (f1.Ir (by decide) (by decide)).trans (rfl : hI h 188 = hI h 188)
  have eI189_1 := (f1.Ir (by decide) (by decide)).trans (rfl : hI h 189 = hI h 189)
  refine wp_aload_n dX12_votes_120 rfl rfl ?_
  refine wp_getR dX12_votes_121 lX12_116 rfl (mO S1) (mR_lastParts S1) ?_
  refine wp_aload_n dX12_votes_124 rfl rfl ?_
  refine wp_getIV dX12_votes_125 lX12_517 rfl (mO S1) efI60_1 ?_
  refine wp_lload dX12_votes_128 rfl ?_
  refine wp_lastN dX12_votes_130 (mA_lastParts S1) rfl ⟨by omega, by decide⟩ ?_
  refine sealAL eL186_1 (fun hh2 f2 e2 => ?_)
  have S2 := f2.s S1
  have efI60_2 := (f2.fI 60 (by decide) (by decide)).trans efI60_1
  have eL187_2 := (f2.Lr (by decide) (by decide)).trans eL187_1
  have eI188_2 := (f2.Ir (by decide) (by decide)).trans eI188_1
  have eI189_2 := (f2.Ir (by decide) (by decide)).trans eI189_1
  have eL185_2 := (f2.Lr (by decide) (by decide)).trans e1
  refine wp_aload_n dX12_votes_131 rfl rfl ?_
  refine wp_getR dX12_votes_132 lX12_119 rfl (mO S2) (mR_firstKey S2) ?_
  refine wp_aload_n dX12_votes_135 rfl rfl ?_
  refine wp_getIV dX12_votes_136 lX12_517 rfl (mO S2) efI60_2 ?_
  refine wp_lload_n dX12_votes_139 rfl rfl ?_
  refine wp_lastN dX12_votes_140 (mA_firstKey S2) rfl ⟨by omega, by decide⟩ ?_
  refine sealAL eL187_2 (fun hh3 f3 e3 => ?_)
  have S3 := f3.s S2
  have efI60_3 := (f3.fI 60 (by decide) (by decide)).trans efI60_2
  have eI188_3 := (f3.Ir (by decide) (by decide)).trans eI188_2
  have eI189_3 := (f3.Ir (by decide) (by decide)).trans eI189_2
  have eL185_3 := (f3.Lr (by decide) (by decide)).trans eL185_2
  have eL186_3 := (f3.Lr (by decide) (by decide)).trans e2
  refine wp_aload_n dX12_votes_141 rfl rfl ?_
  refine wp_getR dX12_votes_142 lX12_122 rfl (mO S3) (mR_votes S3) ?_
  refine wp_aload_n dX12_votes_145 rfl rfl ?_
  refine wp_getIV dX12_votes_146 lX12_517 rfl (mO S3) efI60_3 ?_
  refine wp_iconst (v := (nI 0)) dX12_votes_149 (by decide +kernel) ?_
  refine wp_iastN dX12_votes_150 (mA_votes S3) rfl ⟨by omega, by decide⟩ ?_
  refine sealAI eI188_3 (fun hh4 f4 e4 => ?_)
  have S4 := f4.s S3
  have efI60_4 := (f4.fI 60 (by decide) (by decide)).trans efI60_3
  have eI189_4 := (f4.Ir (by decide) (by decide)).trans eI189_3
  have eL185_4 := (f4.Lr (by decide) (by decide)).trans eL185_3
  have eL186_4 := (f4.Lr (by decide) (by decide)).trans eL186_3
  have eL187_4 := (f4.Lr (by decide) (by decide)).trans e3
  refine wp_aload_n dX12_votes_151 rfl rfl ?_
  refine wp_dup dX12_votes_152 rfl ?_
  refine wp_getIV dX12_votes_153 lX12_517 rfl (mO S4) efI60_4 ?_
  refine wp_iconst (v := (nI 1)) dX12_votes_156 (by decide +kernel) ?_
  refine wp_iadd dX12_votes_157 ?_
  refine wp_putIN dX12_votes_158 lX12_517 rfl rfl (Or.inl rfl) (mO S4) (isN_add rfl rfl) ?_
  refine sealI (fun hh5 f5 e5 => ?_)
  have S5 := f5.s S4
  have eI189_5 := (f5.Ir (by decide) (by decide)).trans eI189_4
  have eL185_5 := (f5.Lr (by decide) (by decide)).trans eL185_4
  have eL186_5 := (f5.Lr (by decide) (by decide)).trans eL186_4
  have eL187_5 := (f5.Lr (by decide) (by decide)).trans eL187_4
  have eI188_5 := (f5.Ir (by decide) (by decide)).trans e4
  refine wp_aload_n dX12_votes_161 rfl rfl ?_
  refine wp_getR dX12_votes_162 lX12_125 rfl (mO S5) (mR_voteAt S5) ?_
  refine wp_iload dX12_votes_165 rfl ?_
  refine wp_aload_n dX12_votes_167 rfl rfl ?_
  refine wp_getIV dX12_votes_168 lX12_517 rfl (mO S5) e5 ?_
  refine wp_iastN dX12_votes_171 (mA_voteAt S5) rfl ⟨Nat.mod_lt _ (by decide), by decide⟩ ?_
  refine sealAI eI189_5 (fun hh6 f6 e6 => ?_)
  have S6 := f6.s S5
  have eL185_6 := (f6.Lr (by decide) (by decide)).trans eL185_5
  have eL186_6 := (f6.Lr (by decide) (by decide)).trans eL186_5
  have eL187_6 := (f6.Lr (by decide) (by decide)).trans eL187_5
  have eI188_6 := (f6.Ir (by decide) (by decide)).trans eI188_5
  have efI60_6 := (f6.fI 60 (by decide) (by decide)).trans e5
  refine wp_aload_n dX12_votes_172 rfl rfl ?_
  refine wp_getR dX12_votes_173 lX12_125 rfl (mO S6) (mR_voteAt S6) ?_
  refine wp_iload dX12_votes_176 rfl ?_
  refine wp_ialdV dX12_votes_178 (mA_voteAt S6) rfl ⟨Nat.mod_lt _ (by decide), by decide⟩ ((congrFun e6 _).trans (upI_at _ _ _)) ?_
  refine wp_iconst (v := (nI 1)) dX12_votes_179 (by decide +kernel) ?_
  refine wp_isub dX12_votes_180 ?_
  rw [pk_sub (by omega), show N + 1 - 1 = N from rfl]
  refine wp_istore (ls1 := [_, _, _, _, _, _, _, _, some _]) dX12_votes_181 (by decide) rfl ?_
  refine wp_aload_n dX12_votes_183 rfl rfl ?_
  refine wp_getR dX12_votes_184 lX12_122 rfl (mO S6) (mR_votes S6) ?_
  refine wp_iload dX12_votes_187 rfl ?_
  refine wp_dup2 dX12_votes_189 rfl rfl ?_
  refine wp_ialdV dX12_votes_190 (mA_votes S6) rfl ⟨by omega, by decide⟩ ((congrFun eI188_6 _).trans (upI_at _ _ _)) ?_
  refine wp_iconst (v := (nI 1)) dX12_votes_191 (by decide +kernel) ?_
  refine wp_iadd dX12_votes_192 ?_
  refine wp_iastN dX12_votes_193 (mA_votes S6) rfl ⟨by omega, by decide⟩ ?_
  refine sealAI eI188_6 (fun hh7 f7 e7 => ?_)
  have S7 := f7.s S6
  have eL185_7 := (f7.Lr (by decide) (by decide)).trans eL185_6
  have eL186_7 := (f7.Lr (by decide) (by decide)).trans eL186_6
  have eL187_7 := (f7.Lr (by decide) (by decide)).trans eL187_6
  have efI60_7 := (f7.fI 60 (by decide) (by decide)).trans efI60_6
  have eI189_7 := (f7.Ir (by decide) (by decide)).trans e6
  refine wp_lload_n dX12_votes_194 rfl rfl ?_
  refine wp_aload_n dX12_votes_195 rfl rfl ?_
  refine wp_getR dX12_votes_196 lX12_119 rfl (mO S7) (mR_firstKey S7) ?_
  refine wp_iload dX12_votes_199 rfl ?_
  refine wp_laldV dX12_votes_201 (mA_firstKey S7) rfl ⟨by omega, by decide⟩ ((congrFun eL187_7 _).trans (up1_at _ _ _)) ?_
  refine wp_lc_ge dX12_votes_202 dX12_votes_203 (fun c2 => ?_) (fun c2 => ?_)
  · refine wp_vreturn dX12_votes_214 rfl ?_
    refine hnew (hsh_no q.2.2.2.1 hw h0) _ _ (((((((f1.up (by decide) (by decide)).tr (f2.up (by decide) (by decide))).tr (f3.up (by decide) (by decide))).tr (f4.up (by decide) (by decide))).tr (f5.up (by decide) (by decide))).tr (f6.up (by decide) (by decide))).tr (f7.up (by decide) (by decide))) (vo_new q hk hl (hsh_no q.2.2.2.1 hw h0) (fun e he => (hw e he).1) h0 efI60_7 eL185_7 eL186_7 eL187_7 (e7.trans (by rw [nI_add])) eI189_7)
  · refine wp_aload_n dX12_votes_206 rfl rfl ?_
    refine wp_getR dX12_votes_207 lX12_119 rfl (mO S7) (mR_firstKey S7) ?_
    refine wp_iload dX12_votes_210 rfl ?_
    refine wp_lload_n dX12_votes_212 rfl rfl ?_
    refine wp_lastN dX12_votes_213 (mA_firstKey S7) rfl ⟨by omega, by decide⟩ ?_
    refine sealAL eL187_7 (fun hh8 f8 e8 => ?_)
    have S8 := f8.s S7
    have eL185_8 := (f8.Lr (by decide) (by decide)).trans eL185_7
    have eL186_8 := (f8.Lr (by decide) (by decide)).trans eL186_7
    have efI60_8 := (f8.fI 60 (by decide) (by decide)).trans efI60_7
    have eI189_8 := (f8.Ir (by decide) (by decide)).trans eI189_7
    have eI188_8 := (f8.Ir (by decide) (by decide)).trans e7
    refine wp_vreturn dX12_votes_214 rfl ?_
    exact absurd (Int64.le_refl _) (by assumption)
set_option maxRecDepth 20000 in
theorem vote_old {h : mH} {Q : Option Value → mH → Prop} {N k : Nat} {OL : Nat → List (Nat × Nat)} {V FK T : Nat → Nat} {l : List (Nat × Nat)} {s j : Nat} (hs : mS h) (q : voH h N OL V FK T) (hN : N < 12000) (hk : k < 1099511627776) (hs9 : s < 32768) (es : T s = j + 1) (hj : j < N) (hlj : OL j = l) (hold : ∀ j, j < N → OL j = l → ∀ h' T', mFr (mP [60] [185, 186, 187, 188, 189]) h h' → voH h' N OL (upN V j (V j + 1)) (upN FK j (min (FK j) k)) T' → Q none h') : Wp mX12_votes 1 25 100 [some (.ref 153), some (.long (lN k)), none, some (.long (lN (pk1 l))), none, some (.long (lN (pk2 l))), none, some (.int (nI s)), none] [] h Q := by
  refine wp_aload_n dX12_votes_100 rfl rfl ?_
  refine wp_getR dX12_votes_101 lX12_125 rfl (mO hs) (mR_voteAt hs) ?_
  refine wp_iload dX12_votes_104 rfl ?_
  refine wp_ialdV dX12_votes_106 (mA_voteAt hs) rfl ⟨hs9, by decide⟩ ((congrFun (rfl : hI h 189 = hI h 189) _).trans ((q.2.2.1 s hs9).trans (congrArg nI es))) ?_
  refine wp_if_neN dX12_votes_107 rfl (by omega) (fun _ => ?_) (fun q9 => absurd q9 (by omega))
  refine wp_aload_n dX12_votes_172 rfl rfl ?_
  refine wp_getR dX12_votes_173 lX12_125 rfl (mO hs) (mR_voteAt hs) ?_
  refine wp_iload dX12_votes_176 rfl ?_
  refine wp_ialdV dX12_votes_178 (mA_voteAt hs) rfl ⟨hs9, by decide⟩ ((congrFun (rfl : hI h 189 = hI h 189) _).trans ((q.2.2.1 s hs9).trans (congrArg nI es))) ?_
  refine wp_iconst (v := (nI 1)) dX12_votes_179 (by decide +kernel) ?_
  refine wp_isub dX12_votes_180 ?_
  rw [pk_sub (by omega), show j + 1 - 1 = j from rfl]
  refine wp_istore (ls1 := [_, _, _, _, _, _, _, _, some _]) dX12_votes_181 (by decide) rfl ?_
  refine wp_aload_n dX12_votes_183 rfl rfl ?_
  refine wp_getR dX12_votes_184 lX12_122 rfl (mO hs) (mR_votes hs) ?_
  refine wp_iload dX12_votes_187 rfl ?_
  refine wp_dup2 dX12_votes_189 rfl rfl ?_
  refine wp_ialdV dX12_votes_190 (mA_votes hs) rfl ⟨by omega, by decide⟩ ((congrFun (rfl : hI h 188 = hI h 188) _).trans (q.2.1 j hj).2.2.1) ?_
  refine wp_iconst (v := (nI 1)) dX12_votes_191 (by decide +kernel) ?_
  refine wp_iadd dX12_votes_192 ?_
  refine wp_iastN dX12_votes_193 (mA_votes hs) rfl ⟨by omega, by decide⟩ ?_
  refine sealAI (rfl : hI h 188 = hI h 188) (fun hh1 f1 e1 => ?_)
  have S1 := f1.s hs
  have efI60_1 := (f1.fI 60 (by decide) (by decide)).trans q.1
  have eL185_1 := (f1.Lr (by decide) (by decide)).trans (rfl : hL h 185 = hL h 185)
  have eL186_1 := (f1.Lr (by decide) (by decide)).trans (rfl : hL h 186 = hL h 186)
  have eL187_1 := (f1.Lr (by decide) (by decide)).trans (rfl : hL h 187 = hL h 187)
  have eI189_1 := (f1.Ir (by decide) (by decide)).trans (rfl : hI h 189 = hI h 189)
  refine wp_lload_n dX12_votes_194 rfl rfl ?_
  refine wp_aload_n dX12_votes_195 rfl rfl ?_
  refine wp_getR dX12_votes_196 lX12_119 rfl (mO S1) (mR_firstKey S1) ?_
  refine wp_iload dX12_votes_199 rfl ?_
  refine wp_laldV dX12_votes_201 (mA_firstKey S1) rfl ⟨by omega, by decide⟩ ((congrFun eL187_1 _).trans (q.2.1 j hj).2.1.1) ?_
  refine wp_lc_ge dX12_votes_202 dX12_votes_203 (fun c2 => ?_) (fun c2 => ?_)
  · refine wp_vreturn dX12_votes_214 rfl ?_
    refine hold j hj hlj _ _ (f1.up (by decide) (by decide)) (vo_old q hk hj efI60_1 eL185_1 eL186_1 eL187_1 ⟨by rw [(q.2.1 j hj).2.1.1, Nat.min_eq_left ((pk_lLE (by have := (q.2.1 j hj).2.1.2; omega) (by omega)).mp (by assumption))], fun o _ => rfl⟩ (e1.trans (by rw [nI_add])) eI189_1)
  · refine wp_aload_n dX12_votes_206 rfl rfl ?_
    refine wp_getR dX12_votes_207 lX12_119 rfl (mO S1) (mR_firstKey S1) ?_
    refine wp_iload dX12_votes_210 rfl ?_
    refine wp_lload_n dX12_votes_212 rfl rfl ?_
    refine wp_lastN dX12_votes_213 (mA_firstKey S1) rfl ⟨by omega, by decide⟩ ?_
    refine sealAL eL187_1 (fun hh2 f2 e2 => ?_)
    have S2 := f2.s S1
    have efI60_2 := (f2.fI 60 (by decide) (by decide)).trans efI60_1
    have eL185_2 := (f2.Lr (by decide) (by decide)).trans eL185_1
    have eL186_2 := (f2.Lr (by decide) (by decide)).trans eL186_1
    have eI189_2 := (f2.Ir (by decide) (by decide)).trans eI189_1
    have eI188_2 := (f2.Ir (by decide) (by decide)).trans e1
    refine wp_vreturn dX12_votes_214 rfl ?_
    refine hold j hj hlj _ _ ((f1.up (by decide) (by decide)).tr (f2.up (by decide) (by decide))) (vo_old q hk hj efI60_2 eL185_2 eL186_2 e2 ⟨(up1_at _ _ _).trans (by rw [Nat.min_eq_right (Nat.le_of_lt (Nat.lt_of_not_le (fun z9 => (by assumption : ¬ lN (FK j) ≤ lN k) ((pk_lLE (by have := (q.2.1 j hj).2.1.2; omega) (by omega)).mpr z9))))]), fun o ho => up1_ne ho⟩ (eI188_2.trans (by rw [nI_add])) eI189_2)
set_option maxRecDepth 20000 in
theorem pX12_votes {h : mH} {Q : Option Value → mH → Prop} {N k : Nat} {OL : Nat → List (Nat × Nat)} {V FK T : Nat → Nat} {l : List (Nat × Nat)} (hs : mS h) (hkc : cutsOK h l) (hl : okP l) (q : voH h N OL V FK T) (hN : N < 12000) (hk : k < 1099511627776) (hnew : (∀ o, o < N → OL o ≠ l) → ∀ h' T', mFr (mP [60] [185, 186, 187, 188, 189]) h h' → voH h' (N + 1) (upN OL N l) (upN V N 1) (upN FK N k) T' → Q none h') (hold : ∀ j, j < N → OL j = l → ∀ h' T', mFr (mP [60] [185, 186, 187, 188, 189]) h h' → voH h' N OL (upN V j (V j + 1)) (upN FK j (min (FK j) k)) T' → Q none h') : Wp mX12_votes 1 25 0 [some (.ref 153), some (.long (lN k)), none, none, none, none, none, none, none] [] h Q := by
  refine wp_aload_n dX12_votes_0 rfl rfl ?_
  refine wp_iconst (v := (nI 0)) dX12_votes_1 (by decide +kernel) ?_
  refine wp_iconst (v := (nI 4)) dX12_votes_2 (by decide +kernel) ?_
  refine wp_cV2 0 0 [some _, some _, some _, none, none, none] dX12_votes_3 tX12_packed rfl (by decide) nX12_packed vX12_packed lX12_512 ⟨by decide, by decide⟩ (Nat.le_of_ble_eq_true rfl) (mO hs) (Nat.le_of_ble_eq_true rfl) rfl ?_
  refine pX12_packed (l := l) (s := 0) (n := 4) hs hkc hl (by decide) (by decide) ?_
  intro _ _
  refine wp_lstore_n (ls1 := [_, _, _, some _, _, _, _, _, _]) dX12_votes_6 rfl (by decide) rfl ?_
  refine wp_aload_n dX12_votes_7 rfl rfl ?_
  refine wp_iconst (v := (nI 4)) dX12_votes_8 (by decide +kernel) ?_
  refine wp_bipush (v := (nI 8)) dX12_votes_9 (by decide +kernel) ?_
  refine wp_cV2 0 0 [some _, some _, some _, none, none, none] dX12_votes_11 tX12_packed rfl (by decide) nX12_packed vX12_packed lX12_512 ⟨by decide, by decide⟩ (Nat.le_of_ble_eq_true rfl) (mO hs) (Nat.le_of_ble_eq_true rfl) rfl ?_
  refine pX12_packed (l := l) (s := 4) (n := 4) hs hkc hl (by decide) (by decide) ?_
  intro _ _
  refine wp_lstore (ls1 := [_, _, _, _, _, some _, _, _, _]) dX12_votes_14 (by decide) rfl ?_
  refine wp_lload_n dX12_votes_16 rfl rfl ?_
  refine wp_ldc2 dX12_votes_17 lX12_374 ?_
  refine wp_lmul dX12_votes_20 ?_
  refine wp_lload dX12_votes_21 rfl ?_
  refine wp_ldc2 dX12_votes_23 lX12_515 ?_
  refine wp_lmul dX12_votes_26 ?_
  refine wp_ladd dX12_votes_27 ?_
  refine wp_bipush (v := (nI 11)) dX12_votes_28 (by decide +kernel) ?_
  refine wp_lshr dX12_votes_30 ?_
  refine wp_ldc2 dX12_votes_31 lX12_376 ?_
  refine wp_land dX12_votes_34 ?_
  refine wp_l2i dX12_votes_35 ?_
  refine wp_istore (ls1 := [_, _, _, _, _, _, _, some _, _]) dX12_votes_36 (by decide) rfl ?_
  rw [show pkN l 0 4 = pk1 l from rfl, show pkN l 4 4 = pk2 l from rfl, (vH_e l).1]
  exact vote_loop hs q hN hl (fun d hw h0 => vote_new hs q hN hk hl hw h0 hnew) (fun s j hs9 es hj hlj => vote_old hs q hN hk hs9 es hj hlj hold)
