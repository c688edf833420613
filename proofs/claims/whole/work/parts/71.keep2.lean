/-! ===== marks put and taken keep what holds ===== -/
theorem sOK_mk {r : Nat → Int64} {F : Nat} {pa my : Nat → Int32} {f p i j : Nat} (s : sOK r F pa my) (hf : f < F) (hp : p < rP r) (hj : j ≤ rT r p) (ho : okM r pa my f p i j) : sOK (mkR r f p i j) F pa my := by
  have hF4 := s.f4
  have hP6 := s.w.1.2
  have hT := (s.w.2.1 p (by omega)).2
  have hw := (s.w.2.2 f p (by omega) (by omega)).2
  obtain ⟨hij, hn8, hmn, hpa⟩ := ho
  have e0 : mkR r f p i j (rX f p) = lN (rM r f p + 1) := up1_at _ _ _
  have e1 : ∀ k, mkR r f p i j (rX f p + 1 + 2 * k) = if k = rM r f p then lN i else r (rX f p + 1 + 2 * k) := fun k => by
    unfold mkR
    rw [up1_ne (by omega), up1_ne (by omega)]
    by_cases c : k = rM r f p
    · rw [if_pos c, c, up1_at]
    · rw [if_neg c, up1_ne (by omega)]
  have e2 : ∀ k, mkR r f p i j (rX f p + 2 + 2 * k) = if k = rM r f p then lN j else r (rX f p + 2 + 2 * k) := fun k => by
    unfold mkR
    rw [up1_ne (by omega)]
    by_cases c : k = rM r f p
    · rw [if_pos c, c, up1_at]
    · rw [if_neg c, up1_ne (by omega), up1_ne (by omega)]
  refine sOK_mark (A := fun k => if k = rM r f p then i else rA r f p k) (B := fun k => if k = rM r f p then j else rB r f p k) (m := rM r f p + 1) s hf hp (fun y hy => ?_) ⟨e0, by omega, fun k hk => ?_⟩ (fun k hk => ?_) (fun hm g hg hg4 => ?_) (fun c hc hpc hm => ?_)
  · unfold mkR
    rw [up1_ne (by omega), up1_ne (by omega), up1_ne (by omega)]
  · rw [e1, e2]
    have hab := s.ab f p k (by omega) (by omega) hk
    by_cases c : k = rM r f p
    · simp only [if_pos c]
      exact ⟨trivial, trivial, by omega, by omega, fun z => by omega, fun _ => ⟨hij, fun z => by omega⟩⟩
    · simp only [if_neg c]
      refine ⟨(hw k hk).1.1, (hw k hk).2.1, hab.1, by omega, fun z => s.zA f p k (by omega) (by omega) hk (by omega), fun z => ?_⟩
      have hso := s.so f p k (by omega) (by omega) (by omega)
      refine ⟨hso.1, fun z2 => ?_⟩
      by_cases c2 : k + 1 = rM r f p
      · rw [if_pos c2]
        rcases hmn with z3 | ⟨_, z3⟩
        · omega
        · rw [show k = rM r f p - 1 by omega]
          exact z3
      · rw [if_neg c2]
        exact hso.2 (by omega)
  · have hab := s.ab f p k (by omega) (by omega) hk
    by_cases c : k = rM r f p
    · simp only [if_pos c]
      exact hj
    · simp only [if_neg c]
      exact hab.2
  · have hpg : 0 < rM r g p ∧ rA r g p 0 ≤ i ∧ j ≤ rB r g p 0 := by
      rcases hpa with z | z
      · rw [z] at hg
        exact absurd hg.symm (nI_ne_m1 (by omega))
      · rw [hg, nOfI_nI (by omega)] at z
        exact z
    refine ⟨hpg.1, ?_, ?_⟩
    · by_cases c : 0 = rM r f p
      · simp only [if_pos c]
        exact hpg.2.1
      · simp only [if_neg c]
        exact (s.ne f p g hf (by omega) (by omega) hg hg4).2.1
    · show (if rM r f p + 1 - 1 = rM r f p then j else _) ≤ _
      rw [if_pos (by omega)]
      exact hpg.2.2
  · have h9 := (s.ne c p f hc (by omega) hm hpc (by omega)).1
    rcases hmn with z | ⟨z, _⟩
    · omega
    · rcases s.par c hc with e | ⟨g, hg, e, hmy⟩
      · rw [e] at hpc
        exact absurd hpc.symm (nI_ne_m1 (by omega))
      · rw [e] at hpc
        have := (nI_eq (by omega) (by omega)).mp hpc
        subst this
        rw [z] at hmy
        exact absurd hmy (by decide)
/-- fields k.. taken of their marks on a page -/
def zD (r : Nat → Int64) (p : Nat) (Z : Nat → Bool) : Nat → Nat → Nat → Int64
  | 0, _ => r
  | n + 1, k => if Z k = true then zr (zD r p Z n (k + 1)) (rX k p) 17 else zD r p Z n (k + 1)
theorem zD_at {r : Nat → Int64} {p : Nat} {Z : Nat → Bool} : ∀ n k y, (∀ f, k ≤ f → f < k + n → Z f = true → ¬ (rX f p ≤ y ∧ y < rX f p + 17)) → zD r p Z n k y = r y
  | 0, _, _, _ => rfl
  | n + 1, k, y, h => by
    have ih := zD_at (r := r) (p := p) (Z := Z) n (k + 1) y (fun f h1 h2 => h f (by omega) (by omega))
    show (if Z k = true then zr (zD r p Z n (k + 1)) (rX k p) 17 else zD r p Z n (k + 1)) y = _
    by_cases c : Z k = true
    · rw [if_pos c]
      unfold zr
      rw [if_neg (h k (Nat.le_refl _) (by omega) c)]
      exact ih
    · rw [if_neg c]
      exact ih
theorem zD_in {r : Nat → Int64} {p : Nat} {Z : Nat → Bool} : ∀ n k f y, k ≤ f → f < k + n → Z f = true → rX f p ≤ y ∧ y < rX f p + 17 → zD r p Z n k y = 0
  | 0, k, f, y, h1, h2, _, _ => by omega
  | n + 1, k, f, y, h1, h2, h3, h4 => by
    show (if Z k = true then zr (zD r p Z n (k + 1)) (rX k p) 17 else zD r p Z n (k + 1)) y = _
    by_cases c : f = k
    · subst c
      rw [if_pos h3]
      unfold zr
      rw [if_pos h4]
    · have ih := zD_in (r := r) (p := p) (Z := Z) n (k + 1) f y (by omega) (by omega) h3 h4
      by_cases c2 : Z k = true
      · rw [if_pos c2]
        unfold zr
        split
        · rfl
        · exact ih
      · rw [if_neg c2]
        exact ih
theorem umR_at {r : Nat → Int64} {pa : Nat → Int32} {f0 p : Nat} : ∀ n y, (∀ f, f < n → und pa f f0 = true → ¬ (rX f p ≤ y ∧ y < rX f p + 17)) → umR r pa f0 p n y = r y
  | 0, _, _ => rfl
  | n + 1, y, h => by
    have ih := umR_at (r := r) (pa := pa) (f0 := f0) (p := p) n y (fun f h1 => h f (by omega))
    show (if und pa n f0 = true then zr (umR r pa f0 p n) (rX n p) 17 else umR r pa f0 p n) y = _
    by_cases c : und pa n f0 = true
    · rw [if_pos c]
      unfold zr
      rw [if_neg (h n (by omega) c)]
      exact ih
    · rw [if_neg c]
      exact ih
theorem umR_in {r : Nat → Int64} {pa : Nat → Int32} {f0 p : Nat} : ∀ n f y, f < n → und pa f f0 = true → rX f p ≤ y ∧ y < rX f p + 17 → umR r pa f0 p n y = 0
  | 0, f, y, h1, _, _ => by omega
  | n + 1, f, y, h1, h3, h4 => by
    show (if und pa n f0 = true then zr (umR r pa f0 p n) (rX n p) 17 else umR r pa f0 p n) y = _
    by_cases c : f = n
    · subst c
      rw [if_pos h3]
      unfold zr
      rw [if_pos h4]
    · have ih := umR_in (r := r) (pa := pa) (f0 := f0) (p := p) n f y (by omega) h3 h4
      by_cases c2 : und pa n f0 = true
      · rw [if_pos c2]
        unfold zr
        split
        · rfl
        · exact ih
      · rw [if_neg c2]
        exact ih
theorem umR_zD {r : Nat → Int64} {pa : Nat → Int32} {f0 p n : Nat} : umR r pa f0 p n = zD r p (fun f => und pa f f0) n 0 := by
  funext y
  refine Classical.byCases (p := ∃ f, f < n ∧ und pa f f0 = true ∧ rX f p ≤ y ∧ y < rX f p + 17) (fun h => ?_) (fun h => ?_)
  · obtain ⟨f, h1, h2, h3⟩ := h
    rw [umR_in n f y h1 h2 h3, zD_in n 0 f y (by omega) (by omega) h2 h3]
  · rw [umR_at n y (fun f h1 h2 h3 => h ⟨f, h1, h2, h3⟩), zD_at n 0 y (fun f _ h1 h2 h3 => h ⟨f, by omega, h2, h3⟩)]
theorem sOK_zD {r : Nat → Int64} {F : Nat} {pa my : Nat → Int32} {p : Nat} {Z : Nat → Bool} (s : sOK r F pa my) (hp : p < rP r) (hZ : ∀ c f, c < F → f < F → pa c = nI f → Z f = true → Z c = true) : ∀ n k, k + n = F → sOK (zD r p Z n k) F pa my ∧ rP (zD r p Z n k) = rP r ∧ ∀ c, k ≤ c → c < F → Z c = true → rM (zD r p Z n k) c p = 0
  | 0, k, h => ⟨s, rfl, fun c h1 h2 => by omega⟩
  | n + 1, k, h => by
    obtain ⟨ih, ihP, ihZ⟩ := sOK_zD s hp hZ n (k + 1) (by omega)
    have hF4 := s.f4
    have hP6 := s.w.1.2
    show sOK (if Z k = true then _ else _) F pa my ∧ rP (if Z k = true then _ else _) = _ ∧ ∀ c, _ → _ → _ → rM (if Z k = true then _ else _) c p = 0
    by_cases c : Z k = true
    · rw [if_pos c]
      have hX : 247 ≤ rX k p ∧ rX k p + 17 ≤ 655 := by
        unfold rX
        omega
      have hz : ∀ y, rX k p ≤ y → y < rX k p + 17 → zr (zD r p Z n (k + 1)) (rX k p) 17 y = 0 := fun y h1 h2 => if_pos ⟨h1, h2⟩
      refine ⟨sOK_mark (A := fun _ => 0) (B := fun _ => 0) (m := 0) ih (by omega) (by rw [ihP]; exact hp) (fun y hy => if_neg (by omega)) ⟨hz _ (Nat.le_refl _) (by omega), by omega, fun i hi => ⟨hz _ (by omega) (by omega), hz _ (by omega) (by omega), Nat.le_refl _, Nat.zero_le _, fun _ => ⟨rfl, rfl⟩, fun z => by omega⟩⟩ (fun i hi => Nat.zero_le _) (fun z => by omega) (fun d hd hpd hm => ?_), ?_, fun d h1 h2 h3 => ?_⟩
      · have hdk : k < d := by
          rcases s.par d hd with e | ⟨g, hg, e, _⟩
          · rw [e] at hpd
            exact absurd hpd.symm (nI_ne_m1 (by omega))
          · rw [e] at hpd
            have := (nI_eq (by omega) (by omega)).mp hpd
            omega
        have := ihZ d (by omega) hd (hZ d k hd (by omega) hpd c)
        omega
      · rw [← ihP]
        unfold rP
        rw [show zr (zD r p Z n (k + 1)) (rX k p) 17 0 = zD r p Z n (k + 1) 0 from if_neg (by omega)]
      · by_cases e : d = k
        · subst e
          unfold rM
          rw [hz _ (Nat.le_refl _) (by omega)]
          rfl
        · have h9 := ihZ d (by omega) h2 h3
          unfold rM at h9 ⊢
          rw [show zr (zD r p Z n (k + 1)) (rX k p) 17 (rX d p) = zD r p Z n (k + 1) (rX d p) from if_neg (by unfold rX; omega)]
          exact h9
    · rw [if_neg c]
      refine ⟨ih, ihP, fun d h1 h2 h3 => ?_⟩
      exact ihZ d (Nat.lt_of_le_of_ne h1 (fun e => by subst e; exact c h3)) h2 h3
theorem undF_f {r : Nat → Int64} {F : Nat} {pa my : Nat → Int32} (s : sOK r F pa my) {top : Nat} : ∀ n m k, k < F → k < n → k < m → undF pa n k top = undF pa m k top
  | 0, m, k, _, h, _ => by omega
  | n + 1, 0, k, _, _, h => by omega
  | n + 1, m + 1, k, hk, h1, h2 => by
    unfold undF
    by_cases e : k = top
    · rw [if_pos e, if_pos e]
    · rw [if_neg e, if_neg e]
      by_cases c : pa k = -1
      · rw [if_pos c, if_pos c]
      · rw [if_neg c, if_neg c]
        rcases s.par k hk with e9 | ⟨g, hg, e9, _⟩
        · exact absurd e9 c
        · rw [e9, nOfI_nI (by have := s.f4; omega)]
          exact undF_f s n m g (by omega) (by omega) (by omega)
theorem und_ch {r : Nat → Int64} {F : Nat} {pa my : Nat → Int32} (s : sOK r F pa my) {top c f : Nat} (hc : c < F) (hf : f < F) (hp : pa c = nI f) (h : und pa f top = true) : und pa c top = true := by
  have hF4 := s.f4
  have hfc : f < c := by
    rcases s.par c hc with e | ⟨g, hg, e, _⟩
    · rw [e] at hp
      exact absurd hp.symm (nI_ne_m1 (by omega))
    · rw [e] at hp
      have := (nI_eq (by omega) (by omega)).mp hp
      omega
  show undF pa 4 c top = true
  unfold undF
  by_cases e : c = top
  · rw [if_pos e]
  · rw [if_neg e, if_neg (by rw [hp]; exact nI_ne_m1 (by omega)), hp, nOfI_nI (by omega), undF_f s 3 4 f hf (by omega) (by omega)]
    exact h
theorem sOK_um {r : Nat → Int64} {F : Nat} {pa my : Nat → Int32} {p f0 : Nat} (s : sOK r F pa my) (hp : p < rP r) : sOK (umR r pa f0 p F) F pa my := by
  rw [umR_zD]
  exact (sOK_zD s hp (fun c f hc hf hpc hz => und_ch s hc hf hpc hz) F 0 (by omega)).1
