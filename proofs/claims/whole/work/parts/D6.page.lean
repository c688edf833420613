/-! ===== a page: numbers of its tokens ===== -/
theorem idx_tk {r : Nat → Int64} {p P i : Nat} (hp : p < P) (hi : i < rT r p) : (uq (tk r P)).idxOf (rW r p i) = (uq (tk r (p + 1))).idxOf (rW r p i) := by
  obtain ⟨t, e⟩ := tk_app r (p + 1) (P - (p + 1))
  rw [show p + 1 + (P - (p + 1)) = P by omega] at e
  obtain ⟨t', e'⟩ := uq_app (tk r (p + 1)) t
  rw [e, e']
  exact idxOf_left ((mem_uq _ _ rfl _).mpr (mem_tk hi))
theorem mem_tkP {r : Nat → Int64} {p P i : Nat} (hp : p < P) (hi : i < rT r p) : rW r p i ∈ tk r P := tk_mem P hp hi
theorem tk_s (r : Nat → Int64) (p : Nat) : tk r (p + 1) = tk r p ++ pg r p (rT r p) := rfl
theorem mem_pg {r : Nat → Int64} {p n : Nat} {x : Int64} : x ∈ pg r p n ↔ ∃ i, i < n ∧ rW r p i = x := by
  unfold pg
  rw [List.mem_map]
  exact ⟨fun ⟨i, h1, h2⟩ => ⟨i, List.mem_range.mp h1, h2⟩, fun ⟨i, h1, h2⟩ => ⟨i, List.mem_range.mpr h1, h2⟩⟩
theorem tk_no {r : Nat → Int64} {p : Nat} {x : Int64} (h : x ∉ tk r p) (h2 : ∀ i, i < rT r p → rW r p i ≠ x) : x ∉ tk r (p + 1) := fun z => by
  rw [tk_s] at z
  rcases List.mem_append.mp z with z | z
  · exact h z
  · obtain ⟨i, hi, e⟩ := mem_pg.mp z
    exact h2 i hi e
set_option maxRecDepth 20000 in
theorem pX6_numberIn {h : mH} {Q : Option Value → mH → Prop} {ow : Nat → Nat} {b P : Nat} {r : Nat → Int64} {x : Int64} (ha : hA h b 19 6) (hP : P ≤ 6) (hT : ∀ p, p < P → rT r p ≤ 40) (hp : ∀ p, p < P → ∃ q, hR h b p = some q ∧ pgR ow h q r p) (ht : x ∈ tk r P → Q (some (.int (nI ((uq (tk r P)).idxOf x)))) h) (hf : x ∉ tk r P → Q (some (.int (-1))) h) : Wp mX6_numberIn 0 0 0 [some (.ref b), some (.int (nI P)), some (.long x), none, none, none, none, none] [] h Q := by
  have hin : ∀  (t9 : Nat) (p : Nat) (q9 : Nat) (i : Nat), (p < P) → (pgR ow h q9 r p) → (i ≤ rT r p) → (x ∉ tk r p) → (∀ k, k < i → rW r p k ≠ x) → (rT r p < i + t9) → (x ∉ tk r (p + 1) → Wp mX6_numberIn 0 0 3 [some (.ref b), some (.int (nI P)), some (.long x), none, some (.int (nI (p + 1))), some (.ref q9), some (.int (nI (rT r p))), some (.int (nI (rT r p)))] [] h Q) → Wp mX6_numberIn 0 0 41 [some (.ref b), some (.int (nI P)), some (.long x), none, some (.int (nI p)), some (.ref q9), some (.int (nI (rT r p))), some (.int (nI i))] [] h Q := by
    intro t9
    induction t9 with
    | zero => intros; omega
    | succ t9 ih =>
      intro p q9 i hp9 pg9 hi hx hn9 hmz hcont
      have hT9 := hT p (by omega)
      refine wp_iload dX6_numberIn_41 rfl ?_
      refine wp_iload dX6_numberIn_43 rfl ?_
      refine wp_icmp_geN dX6_numberIn_45 rfl rfl ⟨by omega, by omega⟩ (fun c2 => ?_) (fun c2 => ?_)
      · refine wp_iinc1 (ls1 := [_, _, _, _, some _, _, _, _]) dX6_numberIn_76 rfl (by decide) rfl ?_
        refine wp_goto dX6_numberIn_79 ?_
        have ei9 : i = rT r p := by omega
        subst ei9
        exact hcont (tk_no hx hn9)
      · refine wp_aload dX6_numberIn_48 rfl ?_
        refine wp_getR dX6_numberIn_50 lX6_30 rfl pg9.oo pg9.r1 ?_
        refine wp_iload dX6_numberIn_53 rfl ?_
        refine wp_laldV dX6_numberIn_55 pg9.a1 rfl ⟨by omega, by omega⟩ (pg9.c1 (by omega)) ?_
        refine wp_lload_n dX6_numberIn_56 rfl rfl ?_
        refine wp_lc_ne dX6_numberIn_57 dX6_numberIn_58 (fun c3 => ?_) (fun c3 => ?_)
        · refine wp_iinc1 (ls1 := [_, _, _, _, _, _, _, some _]) dX6_numberIn_70 rfl (by decide) rfl ?_
          refine wp_goto dX6_numberIn_73 ?_
          exact ih p q9 (i + 1) (by omega) pg9 (by omega) hx (fun k hk => by
            by_cases e9 : k = i
            · subst e9; assumption
            · exact hn9 k (by omega)) (by omega) hcont
        · refine wp_aload dX6_numberIn_61 rfl ?_
          refine wp_getR dX6_numberIn_63 lX6_38 rfl pg9.oo pg9.r3 ?_
          refine wp_iload dX6_numberIn_66 rfl ?_
          refine wp_ialdV dX6_numberIn_68 pg9.a3 rfl ⟨by omega, by omega⟩ (pg9.c3 (by omega)) ?_
          refine wp_ireturn dX6_numberIn_69 rfl ?_
          have ex9 : rW r p i = x := by assumption
          subst ex9
          rw [← idx_tk (P := P) (by omega) (by omega)]
          exact ht (mem_tkP (by omega) (by omega))
  have hout : ∀  (t9 : Nat) (p : Nat) (l5 : Option Value) (l6 : Option Value) (l7 : Option Value), (p ≤ P) → (x ∉ tk r p) → (P < p + t9) → Wp mX6_numberIn 0 0 3 [some (.ref b), some (.int (nI P)), some (.long x), none, some (.int (nI p)), l5, l6, l7] [] h Q := by
    intro t9
    induction t9 with
    | zero => intros; omega
    | succ t9 ih =>
      intro p l5 l6 l7 hp9 hx hmz
      refine wp_iload dX6_numberIn_3 rfl ?_
      refine wp_iload_n dX6_numberIn_5 rfl rfl ?_
      refine wp_icmp_geN dX6_numberIn_6 rfl rfl ⟨by omega, by omega⟩ (fun c2 => ?_) (fun c2 => ?_)
      · refine wp_iconst (v := (-1)) dX6_numberIn_82 (by decide +kernel) ?_
        refine wp_ireturn dX6_numberIn_83 rfl ?_
        have ep9 : p = P := by omega
        subst ep9
        exact hf hx
      · refine wp_iload dX6_numberIn_9 rfl ?_
        refine wp_aload_n dX6_numberIn_11 rfl rfl ?_
        refine wp_alen dX6_numberIn_12 ha (by decide) (by decide) rfl ?_
        refine wp_icmp_geN dX6_numberIn_13 rfl rfl ⟨by omega, by omega⟩ (fun c4 => ?_) (fun c4 => ?_)
        · refine wp_iconst (v := (-1)) dX6_numberIn_82 (by decide +kernel) ?_
          refine wp_ireturn dX6_numberIn_83 rfl ?_
          have ep9 : p = P := by omega
          subst ep9
          exact hf hx
        · refine wp_aload_n dX6_numberIn_16 rfl rfl ?_
          refine wp_iload dX6_numberIn_17 rfl ?_
          obtain ⟨q9, eq9, pg9⟩ := hp p (by omega)
          refine wp_aaldJ dX6_numberIn_19 ha (by decide) (by decide) rfl ⟨by omega, by omega⟩ eq9 ?_
          refine wp_astore (ls1 := [_, _, _, _, _, some _, _, _]) dX6_numberIn_20 (by decide) rfl ?_
          refine wp_aload dX6_numberIn_22 rfl ?_
          refine wp_ifnonnull dX6_numberIn_24 ?_
          refine wp_aload dX6_numberIn_31 rfl ?_
          refine wp_getIV dX6_numberIn_33 lX6_18 rfl pg9.oo pg9.f0 ?_
          refine wp_istore (ls1 := [_, _, _, _, _, _, some _, _]) dX6_numberIn_36 (by decide) rfl ?_
          refine wp_iconst (v := (nI 0)) dX6_numberIn_38 (by decide +kernel) ?_
          refine wp_istore (ls1 := [_, _, _, _, _, _, _, some _]) dX6_numberIn_39 (by decide) rfl ?_
          have hT9 := hT p (by omega)
          exact hin (rT r p + 1) p q9 0 (by omega) pg9 (Nat.zero_le _) hx (fun i hi => absurd hi (Nat.not_lt_zero i)) (by omega) (fun hx9 => ih (p + 1) _ _ _ (by omega) hx9 (by omega))
  refine wp_iconst (v := (nI 0)) dX6_numberIn_0 (by decide +kernel) ?_
  refine wp_istore (ls1 := [_, _, _, _, some _, _, _, _]) dX6_numberIn_1 (by decide) rfl ?_
  exact hout (P + 1) 0 _ _ _ (Nat.zero_le _) (fun z => by cases z) (by omega)
