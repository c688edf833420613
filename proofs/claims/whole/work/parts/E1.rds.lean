/-! ===== the reader: a sign, the next token ===== -/
def kC (s : Nat) : Int32 := if s = 0 then nI 3 else if s = 4 then nI 4 else nI (s - 1)
def rS (ow : Nat → Nat) (h : mH) (rc : Nat → Int32) (rp : Int32) (rq : Option Nat) (rf rl : Int32) (tp : Nat → Int32) (N a : Nat) : Prop := ∃ w, zR ow h rc rp rq rf rl (some 1) (nI N) (nI (tP tp N a)) (nI (tE tp N a)) (kC (tS tp N a)) w ∧ (1 ≤ tS tp N a → tS tp N a ≤ 3 → w = tW tp N a)
theorem rS.fr {S : List Nat} {u9 : Nat} {ow ow' : Nat → Nat} {h h' : mH} {rc : Nat → Int32} {rp rf rl : Int32} {rq : Option Nat} {tp : Nat → Int32} {N a : Nat} (g : rS ow h rc rp rq rf rl tp N a) (f : cFr S u9 ow h ow' h') (hs : 5 ∉ S) : rS ow' h' rc rp rq rf rl tp N a := by
  obtain ⟨w, z, e⟩ := g
  exact ⟨w, z.fr f hs, e⟩
theorem sg_out {x : Int32} (h : x.toInt < 35 ∨ 61 < x.toInt) : isSg x = false := decide_eq_false (fun q => by
  rcases q with rfl | rfl | rfl | rfl | rfl | rfl | rfl | rfl | rfl <;> exact absurd h (by decide +kernel))
section RS
variable {ow : Nat → Nat} {h : mH} {rc : Nat → Int32} {rp rf rl : Int32} {rq : Option Nat} {tp : Nat → Int32} {N a : Nat} {w : Int64}
theorem rS_over (hz : N ≤ tP tp N a) (z : zR ow h rc rp rq rf rl (some 1) (nI N) (nI (tP tp N a)) (nI (tP tp N a)) (nI 3) w) : rS ow h rc rp rq rf rl tp N a := by
  have e1 : tE tp N a = tP tp N a := by unfold tE; rw [if_pos hz]
  have e2 : tS tp N a = 0 := by unfold tS; rw [if_pos hz]
  exact ⟨w, by rw [e1, e2]; exact z, fun z => by omega⟩
theorem rS_lt (hz : tP tp N a < N) (hl : isLt (tp (tP tp N a)) = true) (z : zR ow h rc rp rq rf rl (some 1) (nI N) (nI (tP tp N a)) (nI (rn isLt tp N (tP tp N a))) (if 8 < rn isLt tp N (tP tp N a) - tP tp N a then nI 4 else nI 0) (wd tp (tP tp N a) (rn isLt tp N (tP tp N a) - tP tp N a))) : rS ow h rc rp rq rf rl tp N a := by
  have e1 : tE tp N a = rn isLt tp N (tP tp N a) := by unfold tE; rw [if_neg (by omega), if_pos hl]
  have e2 : tS tp N a = if 8 < tE tp N a - tP tp N a then 4 else 1 := by unfold tS; rw [if_neg (by omega), if_pos hl]
  rw [← e1] at z
  refine ⟨wd tp (tP tp N a) (tE tp N a - tP tp N a), ?_, fun h1 h3 => ?_⟩
  · rw [e2]
    by_cases c : 8 < tE tp N a - tP tp N a
    · rw [if_pos c] at z ⊢; exact z
    · rw [if_neg c] at z ⊢; exact z
  · rw [e2] at h3
    by_cases c : 8 < tE tp N a - tP tp N a
    · rw [if_pos c] at h3; omega
    · unfold tW; rw [show min (tE tp N a - tP tp N a) 8 = tE tp N a - tP tp N a by omega]
theorem rS_dg (hz : tP tp N a < N) (hl : isLt (tp (tP tp N a)) = false) (hd : isDg (tp (tP tp N a)) = true) (z : zR ow h rc rp rq rf rl (some 1) (nI N) (nI (tP tp N a)) (nI (rn isDg tp N (tP tp N a))) (if 4 < rn isDg tp N (tP tp N a) - tP tp N a ∨ isLt (hr tp N (rn isDg tp N (tP tp N a))) = true then nI 4 else nI 1) (wd tp (tP tp N a) (rn isDg tp N (tP tp N a) - tP tp N a))) : rS ow h rc rp rq rf rl tp N a := by
  have hl' : ¬ isLt (tp (tP tp N a)) = true := by rw [hl]; exact fun z => by cases z
  have e1 : tE tp N a = rn isDg tp N (tP tp N a) := by unfold tE; rw [if_neg (by omega), if_neg hl', if_pos hd]
  have e2 : tS tp N a = if 4 < tE tp N a - tP tp N a ∨ isLt (hr tp N (tE tp N a)) = true then 4 else 2 := by unfold tS; rw [if_neg (by omega), if_neg hl', if_pos hd]
  rw [← e1] at z
  refine ⟨wd tp (tP tp N a) (tE tp N a - tP tp N a), ?_, fun h1 h3 => ?_⟩
  · rw [e2]
    by_cases c : 4 < tE tp N a - tP tp N a ∨ isLt (hr tp N (tE tp N a)) = true
    · rw [if_pos c] at z ⊢; exact z
    · rw [if_neg c] at z ⊢; exact z
  · rw [e2] at h3
    by_cases c : 4 < tE tp N a - tP tp N a ∨ isLt (hr tp N (tE tp N a)) = true
    · rw [if_pos c] at h3; omega
    · unfold tW; rw [show min (tE tp N a - tP tp N a) 8 = tE tp N a - tP tp N a by have : ¬ 4 < tE tp N a - tP tp N a := fun q => c (Or.inl q); omega]
theorem rS_ot (hz : tP tp N a < N) (hl : isLt (tp (tP tp N a)) = false) (hd : isDg (tp (tP tp N a)) = false) (z : zR ow h rc rp rq rf rl (some 1) (nI N) (nI (tP tp N a)) (nI (tP tp N a + 1)) (if isSg (tp (tP tp N a)) = true then nI 2 else nI 4) w) (hw : isSg (tp (tP tp N a)) = true → w = (tp (tP tp N a)).toInt64) : rS ow h rc rp rq rf rl tp N a := by
  have hl' : ¬ isLt (tp (tP tp N a)) = true := by rw [hl]; exact fun z => by cases z
  have hd' : ¬ isDg (tp (tP tp N a)) = true := by rw [hd]; exact fun z => by cases z
  have e1 : tE tp N a = tP tp N a + 1 := by unfold tE; rw [if_neg (by omega), if_neg hl', if_neg hd']
  have e2 : tS tp N a = if isSg (tp (tP tp N a)) = true then 3 else 4 := by unfold tS; rw [if_neg (by omega), if_neg hl', if_neg hd']
  rw [← e1] at z
  refine ⟨w, ?_, fun h1 h3 => ?_⟩
  · rw [e2]
    by_cases c : isSg (tp (tP tp N a)) = true
    · rw [if_pos c] at z ⊢; exact z
    · rw [if_neg c] at z ⊢; exact z
  · rw [e2] at h3
    by_cases c : isSg (tp (tP tp N a)) = true
    · unfold tW; rw [hw c, show min (tE tp N a - tP tp N a) 8 = 1 by omega, wd_1]
    · rw [if_neg c] at h3; omega
end RS
set_option maxRecDepth 20000 in
theorem pX7_isSign {h : mH} {Q : Option Value → mH → Prop} {x : Int32} (ht : isSg x = true → Q (some (.int (nI 1))) h) (hf : isSg x = false → Q (some (.int (nI 0))) h) : Wp mX7_isSign 0 0 0 [some (.int x)] [] h Q := by
  refine wp_iload_n dX7_isSign_0 rfl rfl ?_
  by_cases c9 : x.toInt < 35 ∨ 61 < x.toInt
  · refine wp_tableOut (t := 126) dX7_isSign_1 c9 (by decide +kernel) ?_
    refine wp_iconst (v := (nI 0)) dX7_isSign_126 (by decide +kernel) ?_
    refine wp_zreturn dX7_isSign_127 rfl (by first | exact Or.inl rfl | exact Or.inr rfl) ?_
    exact hf (sg_out c9)
  · rcases ix_cases (x := x) (n := 62) (by decide) with xn | ⟨j, hj, ej⟩
    · exact absurd (ix_out xn) (by omega)
    · subst ej
      rcases (by omega : j = 0 ∨ j = 1 ∨ j = 2 ∨ j = 3 ∨ j = 4 ∨ j = 5 ∨ j = 6 ∨ j = 7 ∨ j = 8 ∨ j = 9 ∨ j = 10 ∨ j = 11 ∨ j = 12 ∨ j = 13 ∨ j = 14 ∨ j = 15 ∨ j = 16 ∨ j = 17 ∨ j = 18 ∨ j = 19 ∨ j = 20 ∨ j = 21 ∨ j = 22 ∨ j = 23 ∨ j = 24 ∨ j = 25 ∨ j = 26 ∨ j = 27 ∨ j = 28 ∨ j = 29 ∨ j = 30 ∨ j = 31 ∨ j = 32 ∨ j = 33 ∨ j = 34 ∨ j = 35 ∨ j = 36 ∨ j = 37 ∨ j = 38 ∨ j = 39 ∨ j = 40 ∨ j = 41 ∨ j = 42 ∨ j = 43 ∨ j = 44 ∨ j = 45 ∨ j = 46 ∨ j = 47 ∨ j = 48 ∨ j = 49 ∨ j = 50 ∨ j = 51 ∨ j = 52 ∨ j = 53 ∨ j = 54 ∨ j = 55 ∨ j = 56 ∨ j = 57 ∨ j = 58 ∨ j = 59 ∨ j = 60 ∨ j = 61) with rfl | rfl | rfl | rfl | rfl | rfl | rfl | rfl | rfl | rfl | rfl | rfl | rfl | rfl | rfl | rfl | rfl | rfl | rfl | rfl | rfl | rfl | rfl | rfl | rfl | rfl | rfl | rfl | rfl | rfl | rfl | rfl | rfl | rfl | rfl | rfl | rfl | rfl | rfl | rfl | rfl | rfl | rfl | rfl | rfl | rfl | rfl | rfl | rfl | rfl | rfl | rfl | rfl | rfl | rfl | rfl | rfl | rfl | rfl | rfl | rfl | rfl
      · exact absurd (by decide +kernel) c9
      · exact absurd (by decide +kernel) c9
      · exact absurd (by decide +kernel) c9
      · exact absurd (by decide +kernel) c9
      · exact absurd (by decide +kernel) c9
      · exact absurd (by decide +kernel) c9
      · exact absurd (by decide +kernel) c9
      · exact absurd (by decide +kernel) c9
      · exact absurd (by decide +kernel) c9
      · exact absurd (by decide +kernel) c9
      · exact absurd (by decide +kernel) c9
      · exact absurd (by decide +kernel) c9
      · exact absurd (by decide +kernel) c9
      · exact absurd (by decide +kernel) c9
      · exact absurd (by decide +kernel) c9
      · exact absurd (by decide +kernel) c9
      · exact absurd (by decide +kernel) c9
      · exact absurd (by decide +kernel) c9
      · exact absurd (by decide +kernel) c9
      · exact absurd (by decide +kernel) c9
      · exact absurd (by decide +kernel) c9
      · exact absurd (by decide +kernel) c9
      · exact absurd (by decide +kernel) c9
      · exact absurd (by decide +kernel) c9
      · exact absurd (by decide +kernel) c9
      · exact absurd (by decide +kernel) c9
      · exact absurd (by decide +kernel) c9
      · exact absurd (by decide +kernel) c9
      · exact absurd (by decide +kernel) c9
      · exact absurd (by decide +kernel) c9
      · exact absurd (by decide +kernel) c9
      · exact absurd (by decide +kernel) c9
      · exact absurd (by decide +kernel) c9
      · exact absurd (by decide +kernel) c9
      · exact absurd (by decide +kernel) c9
      · refine wp_tableIn (off := 123) (t := 124) dX7_isSign_1 (by decide +kernel) (by decide +kernel) (by decide +kernel) (by decide +kernel) ?_
        refine wp_iconst (v := (nI 1)) dX7_isSign_124 (by decide +kernel) ?_
        refine wp_zreturn dX7_isSign_125 rfl (by first | exact Or.inl rfl | exact Or.inr rfl) ?_
        exact ht (by decide +kernel)
      · refine wp_tableIn (off := 125) (t := 126) dX7_isSign_1 (by decide +kernel) (by decide +kernel) (by decide +kernel) (by decide +kernel) ?_
        refine wp_iconst (v := (nI 0)) dX7_isSign_126 (by decide +kernel) ?_
        refine wp_zreturn dX7_isSign_127 rfl (by first | exact Or.inl rfl | exact Or.inr rfl) ?_
        exact hf (by decide +kernel)
      · refine wp_tableIn (off := 125) (t := 126) dX7_isSign_1 (by decide +kernel) (by decide +kernel) (by decide +kernel) (by decide +kernel) ?_
        refine wp_iconst (v := (nI 0)) dX7_isSign_126 (by decide +kernel) ?_
        refine wp_zreturn dX7_isSign_127 rfl (by first | exact Or.inl rfl | exact Or.inr rfl) ?_
        exact hf (by decide +kernel)
      · refine wp_tableIn (off := 125) (t := 126) dX7_isSign_1 (by decide +kernel) (by decide +kernel) (by decide +kernel) (by decide +kernel) ?_
        refine wp_iconst (v := (nI 0)) dX7_isSign_126 (by decide +kernel) ?_
        refine wp_zreturn dX7_isSign_127 rfl (by first | exact Or.inl rfl | exact Or.inr rfl) ?_
        exact hf (by decide +kernel)
      · refine wp_tableIn (off := 125) (t := 126) dX7_isSign_1 (by decide +kernel) (by decide +kernel) (by decide +kernel) (by decide +kernel) ?_
        refine wp_iconst (v := (nI 0)) dX7_isSign_126 (by decide +kernel) ?_
        refine wp_zreturn dX7_isSign_127 rfl (by first | exact Or.inl rfl | exact Or.inr rfl) ?_
        exact hf (by decide +kernel)
      · refine wp_tableIn (off := 125) (t := 126) dX7_isSign_1 (by decide +kernel) (by decide +kernel) (by decide +kernel) (by decide +kernel) ?_
        refine wp_iconst (v := (nI 0)) dX7_isSign_126 (by decide +kernel) ?_
        refine wp_zreturn dX7_isSign_127 rfl (by first | exact Or.inl rfl | exact Or.inr rfl) ?_
        exact hf (by decide +kernel)
      · refine wp_tableIn (off := 125) (t := 126) dX7_isSign_1 (by decide +kernel) (by decide +kernel) (by decide +kernel) (by decide +kernel) ?_
        refine wp_iconst (v := (nI 0)) dX7_isSign_126 (by decide +kernel) ?_
        refine wp_zreturn dX7_isSign_127 rfl (by first | exact Or.inl rfl | exact Or.inr rfl) ?_
        exact hf (by decide +kernel)
      · refine wp_tableIn (off := 125) (t := 126) dX7_isSign_1 (by decide +kernel) (by decide +kernel) (by decide +kernel) (by decide +kernel) ?_
        refine wp_iconst (v := (nI 0)) dX7_isSign_126 (by decide +kernel) ?_
        refine wp_zreturn dX7_isSign_127 rfl (by first | exact Or.inl rfl | exact Or.inr rfl) ?_
        exact hf (by decide +kernel)
      · refine wp_tableIn (off := 123) (t := 124) dX7_isSign_1 (by decide +kernel) (by decide +kernel) (by decide +kernel) (by decide +kernel) ?_
        refine wp_iconst (v := (nI 1)) dX7_isSign_124 (by decide +kernel) ?_
        refine wp_zreturn dX7_isSign_125 rfl (by first | exact Or.inl rfl | exact Or.inr rfl) ?_
        exact ht (by decide +kernel)
      · refine wp_tableIn (off := 123) (t := 124) dX7_isSign_1 (by decide +kernel) (by decide +kernel) (by decide +kernel) (by decide +kernel) ?_
        refine wp_iconst (v := (nI 1)) dX7_isSign_124 (by decide +kernel) ?_
        refine wp_zreturn dX7_isSign_125 rfl (by first | exact Or.inl rfl | exact Or.inr rfl) ?_
        exact ht (by decide +kernel)
      · refine wp_tableIn (off := 123) (t := 124) dX7_isSign_1 (by decide +kernel) (by decide +kernel) (by decide +kernel) (by decide +kernel) ?_
        refine wp_iconst (v := (nI 1)) dX7_isSign_124 (by decide +kernel) ?_
        refine wp_zreturn dX7_isSign_125 rfl (by first | exact Or.inl rfl | exact Or.inr rfl) ?_
        exact ht (by decide +kernel)
      · refine wp_tableIn (off := 123) (t := 124) dX7_isSign_1 (by decide +kernel) (by decide +kernel) (by decide +kernel) (by decide +kernel) ?_
        refine wp_iconst (v := (nI 1)) dX7_isSign_124 (by decide +kernel) ?_
        refine wp_zreturn dX7_isSign_125 rfl (by first | exact Or.inl rfl | exact Or.inr rfl) ?_
        exact ht (by decide +kernel)
      · refine wp_tableIn (off := 123) (t := 124) dX7_isSign_1 (by decide +kernel) (by decide +kernel) (by decide +kernel) (by decide +kernel) ?_
        refine wp_iconst (v := (nI 1)) dX7_isSign_124 (by decide +kernel) ?_
        refine wp_zreturn dX7_isSign_125 rfl (by first | exact Or.inl rfl | exact Or.inr rfl) ?_
        exact ht (by decide +kernel)
      · refine wp_tableIn (off := 125) (t := 126) dX7_isSign_1 (by decide +kernel) (by decide +kernel) (by decide +kernel) (by decide +kernel) ?_
        refine wp_iconst (v := (nI 0)) dX7_isSign_126 (by decide +kernel) ?_
        refine wp_zreturn dX7_isSign_127 rfl (by first | exact Or.inl rfl | exact Or.inr rfl) ?_
        exact hf (by decide +kernel)
      · refine wp_tableIn (off := 125) (t := 126) dX7_isSign_1 (by decide +kernel) (by decide +kernel) (by decide +kernel) (by decide +kernel) ?_
        refine wp_iconst (v := (nI 0)) dX7_isSign_126 (by decide +kernel) ?_
        refine wp_zreturn dX7_isSign_127 rfl (by first | exact Or.inl rfl | exact Or.inr rfl) ?_
        exact hf (by decide +kernel)
      · refine wp_tableIn (off := 125) (t := 126) dX7_isSign_1 (by decide +kernel) (by decide +kernel) (by decide +kernel) (by decide +kernel) ?_
        refine wp_iconst (v := (nI 0)) dX7_isSign_126 (by decide +kernel) ?_
        refine wp_zreturn dX7_isSign_127 rfl (by first | exact Or.inl rfl | exact Or.inr rfl) ?_
        exact hf (by decide +kernel)
      · refine wp_tableIn (off := 125) (t := 126) dX7_isSign_1 (by decide +kernel) (by decide +kernel) (by decide +kernel) (by decide +kernel) ?_
        refine wp_iconst (v := (nI 0)) dX7_isSign_126 (by decide +kernel) ?_
        refine wp_zreturn dX7_isSign_127 rfl (by first | exact Or.inl rfl | exact Or.inr rfl) ?_
        exact hf (by decide +kernel)
      · refine wp_tableIn (off := 125) (t := 126) dX7_isSign_1 (by decide +kernel) (by decide +kernel) (by decide +kernel) (by decide +kernel) ?_
        refine wp_iconst (v := (nI 0)) dX7_isSign_126 (by decide +kernel) ?_
        refine wp_zreturn dX7_isSign_127 rfl (by first | exact Or.inl rfl | exact Or.inr rfl) ?_
        exact hf (by decide +kernel)
      · refine wp_tableIn (off := 125) (t := 126) dX7_isSign_1 (by decide +kernel) (by decide +kernel) (by decide +kernel) (by decide +kernel) ?_
        refine wp_iconst (v := (nI 0)) dX7_isSign_126 (by decide +kernel) ?_
        refine wp_zreturn dX7_isSign_127 rfl (by first | exact Or.inl rfl | exact Or.inr rfl) ?_
        exact hf (by decide +kernel)
      · refine wp_tableIn (off := 125) (t := 126) dX7_isSign_1 (by decide +kernel) (by decide +kernel) (by decide +kernel) (by decide +kernel) ?_
        refine wp_iconst (v := (nI 0)) dX7_isSign_126 (by decide +kernel) ?_
        refine wp_zreturn dX7_isSign_127 rfl (by first | exact Or.inl rfl | exact Or.inr rfl) ?_
        exact hf (by decide +kernel)
      · refine wp_tableIn (off := 125) (t := 126) dX7_isSign_1 (by decide +kernel) (by decide +kernel) (by decide +kernel) (by decide +kernel) ?_
        refine wp_iconst (v := (nI 0)) dX7_isSign_126 (by decide +kernel) ?_
        refine wp_zreturn dX7_isSign_127 rfl (by first | exact Or.inl rfl | exact Or.inr rfl) ?_
        exact hf (by decide +kernel)
      · refine wp_tableIn (off := 125) (t := 126) dX7_isSign_1 (by decide +kernel) (by decide +kernel) (by decide +kernel) (by decide +kernel) ?_
        refine wp_iconst (v := (nI 0)) dX7_isSign_126 (by decide +kernel) ?_
        refine wp_zreturn dX7_isSign_127 rfl (by first | exact Or.inl rfl | exact Or.inr rfl) ?_
        exact hf (by decide +kernel)
      · refine wp_tableIn (off := 125) (t := 126) dX7_isSign_1 (by decide +kernel) (by decide +kernel) (by decide +kernel) (by decide +kernel) ?_
        refine wp_iconst (v := (nI 0)) dX7_isSign_126 (by decide +kernel) ?_
        refine wp_zreturn dX7_isSign_127 rfl (by first | exact Or.inl rfl | exact Or.inr rfl) ?_
        exact hf (by decide +kernel)
      · refine wp_tableIn (off := 123) (t := 124) dX7_isSign_1 (by decide +kernel) (by decide +kernel) (by decide +kernel) (by decide +kernel) ?_
        refine wp_iconst (v := (nI 1)) dX7_isSign_124 (by decide +kernel) ?_
        refine wp_zreturn dX7_isSign_125 rfl (by first | exact Or.inl rfl | exact Or.inr rfl) ?_
        exact ht (by decide +kernel)
      · refine wp_tableIn (off := 123) (t := 124) dX7_isSign_1 (by decide +kernel) (by decide +kernel) (by decide +kernel) (by decide +kernel) ?_
        refine wp_iconst (v := (nI 1)) dX7_isSign_124 (by decide +kernel) ?_
        refine wp_zreturn dX7_isSign_125 rfl (by first | exact Or.inl rfl | exact Or.inr rfl) ?_
        exact ht (by decide +kernel)
      · refine wp_tableIn (off := 125) (t := 126) dX7_isSign_1 (by decide +kernel) (by decide +kernel) (by decide +kernel) (by decide +kernel) ?_
        refine wp_iconst (v := (nI 0)) dX7_isSign_126 (by decide +kernel) ?_
        refine wp_zreturn dX7_isSign_127 rfl (by first | exact Or.inl rfl | exact Or.inr rfl) ?_
        exact hf (by decide +kernel)
      · refine wp_tableIn (off := 123) (t := 124) dX7_isSign_1 (by decide +kernel) (by decide +kernel) (by decide +kernel) (by decide +kernel) ?_
        refine wp_iconst (v := (nI 1)) dX7_isSign_124 (by decide +kernel) ?_
        refine wp_zreturn dX7_isSign_125 rfl (by first | exact Or.inl rfl | exact Or.inr rfl) ?_
        exact ht (by decide +kernel)
set_option maxRecDepth 20000 in
theorem pX7_step {h : mH} {Q : Option Value → mH → Prop} {ow : Nat → Nat} {rc : Nat → Int32} {rp rf rl : Int32} {rq : Option Nat} {tp : Nat → Int32} {N a : Nat} {ra rk : Int32} {rw : Int64} (zr : zR ow h rc rp rq rf rl (some 1) (nI N) ra (nI a) rk rw) (tx : txR ow h tp N) (hk : a ≤ N) (hq : ∀ h', cFr [5] 0 ow h ow h' → rS ow h' rc rp rq rf rl tp N a → Q none h') : Wp mX7_step 2 42 0 [some (.ref 6)] [] h Q := by
  have hN9 := tx.2.2.1
  have hlp : ∀  (t9 : Nat) (h1 : mH) (i : Nat), (a ≤ i ∧ i ≤ N) → (cFr [5] 0 ow h ow h1) → (zR ow h1 rc rp rq rf rl (some 1) (nI N) (nI i) (nI a) rk rw) → (∀ j, a ≤ j → j < i → isSp (tp j) = true) → (N < i + t9) → Wp mX7_step 2 42 8 [some (.ref 6)] [] h1 Q := by
    intro t9
    induction t9 with
    | zero => intros; omega
    | succ t9 ih =>
      intro h1 i hi hf1 zr1 hp hmz
      have tx1 := tx.fr hf1 (by decide)
      have hN9 := tx.2.2.1
      refine wp_aload_n dX7_step_8 rfl rfl ?_
      refine wp_getIV dX7_step_9 lX7_84 rfl zr1.o zr1.f8 ?_
      refine wp_aload_n dX7_step_12 rfl rfl ?_
      refine wp_getIV dX7_step_13 lX7_72 rfl zr1.o zr1.f7 ?_
      refine wp_icmp_geN dX7_step_16 rfl rfl ⟨by omega, by omega⟩ (fun c2 => ?_) (fun c2 => ?_)
      · have er9 : tP tp N a = i := rn_of hi.1 hi.2 hp (Or.inl (by omega))
        subst er9
        refine wp_aload_n dX7_step_60 rfl rfl ?_
        refine wp_aload_n dX7_step_61 rfl rfl ?_
        refine wp_getIV dX7_step_62 lX7_84 rfl zr1.o zr1.f8 ?_
        refine wp_putI dX7_step_65 lX7_75 rfl (Or.inl rfl) zr1.o rfl rfl ?_
        refine zr1.p9 (fun hh1 f1 zr1_1 => ?_)
        have tx1_1 := tx1.fr f1 (rnS (by omega) rn0)
        refine wp_aload_n dX7_step_68 rfl rfl ?_
        refine wp_lconst (v := 0) dX7_step_69 (by decide +kernel) ?_
        refine wp_putL dX7_step_70 lX7_91 rfl (Or.inl rfl) zr1_1.o ?_
        refine zr1_1.p11 (fun hh2 f2 zr1_2 => ?_)
        have tx1_2 := tx1_1.fr f2 (rnS (by omega) rn0)
        refine wp_aload_n dX7_step_73 rfl rfl ?_
        refine wp_getIV dX7_step_74 lX7_84 rfl zr1_2.o zr1_2.f8 ?_
        refine wp_aload_n dX7_step_77 rfl rfl ?_
        refine wp_getIV dX7_step_78 lX7_72 rfl zr1_2.o zr1_2.f7 ?_
        refine wp_icmp_ltN dX7_step_81 rfl rfl ⟨by omega, by omega⟩ (fun c4 => ?_) (fun c4 => ?_)
        · refine wp_aload_n dX7_step_92 rfl rfl ?_
          refine wp_getR dX7_step_93 lX7_27 rfl zr1_2.o zr1_2.f6 ?_
          refine wp_aload_n dX7_step_96 rfl rfl ?_
          refine wp_getIV dX7_step_97 lX7_84 rfl zr1_2.o zr1_2.f8 ?_
          refine wp_baldN dX7_step_100 tx1_2.1 rfl ⟨by omega, by omega⟩ ?_
          refine wp_cSN1 0 0 [some _] dX7_step_101 tX11_isLetter sX11_isLetter lX7_129 ⟨by decide, by decide⟩ (Nat.le_of_ble_eq_true rfl) (Nat.le_of_ble_eq_true rfl) rfl ?_
          refine pX11_isLetter (fun t3 => ?_) (fun t3 => ?_)
          · have e3 := (tx1_2.2.2.2 (tP tp N a) (by omega)).lt.symm.trans t3
            intro _ _
            refine wp_if_eq dX7_step_104 (fun q => absurd q (by decide +kernel)) (fun _ => ?_)
            refine wp_aload_n dX7_step_107 rfl rfl ?_
            refine wp_cV0 1 20 [some _, none] dX7_step_108 tX7_takeLetters rfl (by decide) nX7_takeLetters vX7_takeLetters lX7_133 ⟨by decide, by decide⟩ (Nat.le_of_ble_eq_true rfl) zr1_2.o (Nat.le_of_ble_eq_true rfl) rfl ?_
            refine pX7_takeLetters (k := (tP tp N a)) zr1_2 tx1_2 (by omega) (fun hh4 f4 zr_4 => ?_)
            intro _ _
            refine wp_goto dX7_step_111 ?_
            refine wp_vreturn dX7_step_184 rfl ?_
            exact hq _ ((((hf1.up (by decide) (Nat.le_refl _)).tr (f1.up (by decide) (Nat.le_refl _))).tr (f2.up (by decide) (Nat.le_refl _))).tr (f4.up (by decide) (Nat.le_refl _))) (rS_lt (by omega) e3 zr_4)
          · have e3 := (tx1_2.2.2.2 (tP tp N a) (by omega)).lt.symm.trans t3
            intro _ _
            refine wp_if_eq dX7_step_104 (fun _ => ?_) (fun q => absurd q (by decide +kernel))
            refine wp_aload_n dX7_step_114 rfl rfl ?_
            refine wp_getR dX7_step_115 lX7_27 rfl zr1_2.o zr1_2.f6 ?_
            refine wp_aload_n dX7_step_118 rfl rfl ?_
            refine wp_getIV dX7_step_119 lX7_84 rfl zr1_2.o zr1_2.f8 ?_
            refine wp_baldN dX7_step_122 tx1_2.1 rfl ⟨by omega, by omega⟩ ?_
            refine wp_cSN1 0 0 [some _] dX7_step_123 tX11_isDigit sX11_isDigit lX7_136 ⟨by decide, by decide⟩ (Nat.le_of_ble_eq_true rfl) (Nat.le_of_ble_eq_true rfl) rfl ?_
            refine pX11_isDigit (fun t5 => ?_) (fun t5 => ?_)
            · have e5 := (tx1_2.2.2.2 (tP tp N a) (by omega)).dg.symm.trans t5
              intro _ _
              refine wp_if_eq dX7_step_126 (fun q => absurd q (by decide +kernel)) (fun _ => ?_)
              refine wp_aload_n dX7_step_129 rfl rfl ?_
              refine wp_cV0 1 20 [some _, none, none] dX7_step_130 tX7_takeDigits rfl (by decide) nX7_takeDigits vX7_takeDigits lX7_139 ⟨by decide, by decide⟩ (Nat.le_of_ble_eq_true rfl) zr1_2.o (Nat.le_of_ble_eq_true rfl) rfl ?_
              refine pX7_takeDigits (k := (tP tp N a)) zr1_2 tx1_2 (by omega) (fun hh6 f6 zr_6 => ?_)
              intro _ _
              refine wp_goto dX7_step_133 ?_
              refine wp_vreturn dX7_step_184 rfl ?_
              exact hq _ ((((hf1.up (by decide) (Nat.le_refl _)).tr (f1.up (by decide) (Nat.le_refl _))).tr (f2.up (by decide) (Nat.le_refl _))).tr (f6.up (by decide) (Nat.le_refl _))) (rS_dg (by omega) e3 e5 zr_6)
            · have e5 := (tx1_2.2.2.2 (tP tp N a) (by omega)).dg.symm.trans t5
              intro _ _
              refine wp_if_eq dX7_step_126 (fun _ => ?_) (fun q => absurd q (by decide +kernel))
              refine wp_aload_n dX7_step_136 rfl rfl ?_
              refine wp_aload_n dX7_step_137 rfl rfl ?_
              refine wp_getR dX7_step_138 lX7_27 rfl zr1_2.o zr1_2.f6 ?_
              refine wp_aload_n dX7_step_141 rfl rfl ?_
              refine wp_getIV dX7_step_142 lX7_84 rfl zr1_2.o zr1_2.f8 ?_
              refine wp_baldN dX7_step_145 tx1_2.1 rfl ⟨by omega, by omega⟩ ?_
              refine wp_cS1 0 0 [some _] dX7_step_146 tX7_isSign sX7_isSign lX7_142 ⟨by decide, by decide⟩ (Nat.le_of_ble_eq_true rfl) (Nat.le_of_ble_eq_true rfl) rfl ?_
              refine pX7_isSign (fun t7 => ?_) (fun t7 => ?_)
              · have e7 := (tx1_2.2.2.2 (tP tp N a) (by omega)).sg.symm.trans t7
                intro _ _
                refine wp_if_eq dX7_step_149 (fun q => absurd q (by decide +kernel)) (fun _ => ?_)
                refine wp_iconst (v := (nI 2)) dX7_step_152 (by decide +kernel) ?_
                refine wp_goto dX7_step_153 ?_
                refine wp_putI dX7_step_157 lX7_39 rfl (Or.inl rfl) zr1_2.o rfl rfl ?_
                refine zr1_2.p10 (fun hh8 f8 zr1_8 => ?_)
                have tx1_8 := tx1_2.fr f8 (rnS (by omega) rn0)
                refine wp_aload_n dX7_step_160 rfl rfl ?_
                refine wp_aload_n dX7_step_161 rfl rfl ?_
                refine wp_getR dX7_step_162 lX7_27 rfl zr1_8.o zr1_8.f6 ?_
                refine wp_aload_n dX7_step_165 rfl rfl ?_
                refine wp_getIV dX7_step_166 lX7_84 rfl zr1_8.o zr1_8.f8 ?_
                refine wp_baldN dX7_step_169 tx1_8.1 rfl ⟨by omega, by omega⟩ ?_
                refine wp_i2l dX7_step_170 ?_
                refine wp_putL dX7_step_171 lX7_91 rfl (Or.inl rfl) zr1_8.o ?_
                refine zr1_8.p11 (fun hh9 f9 zr1_9 => ?_)
                have tx1_9 := tx1_8.fr f9 (rnS (by omega) rn0)
                refine wp_aload_n dX7_step_174 rfl rfl ?_
                refine wp_aload_n dX7_step_175 rfl rfl ?_
                refine wp_getIV dX7_step_176 lX7_84 rfl zr1_9.o zr1_9.f8 ?_
                refine wp_iconst (v := (nI 1)) dX7_step_179 (by decide +kernel) ?_
                refine wp_iadd dX7_step_180 ?_
                refine wp_putIN dX7_step_181 lX7_75 rfl rfl (Or.inl rfl) zr1_9.o (isN_add rfl rfl) ?_
                refine zr1_9.p9 (fun hh10 f10 zr1_10 => ?_)
                have tx1_10 := tx1_9.fr f10 (rnS (by omega) rn0)
                refine wp_vreturn dX7_step_184 rfl ?_
                refine hq _ ((((((hf1.up (by decide) (Nat.le_refl _)).tr (f1.up (by decide) (Nat.le_refl _))).tr (f2.up (by decide) (Nat.le_refl _))).tr (f8.up (by decide) (Nat.le_refl _))).tr (f9.up (by decide) (Nat.le_refl _))).tr (f10.up (by decide) (Nat.le_refl _))) (rS_ot (by omega) e3 e5 (by rw [if_pos e7]; exact zr1_10) (fun z9 => ?_))
                exact congrArg Int32.toInt64 ((tx1_8.2.2.2 (tP tp N a) (by omega)).es z9)
              · have e7 := (tx1_2.2.2.2 (tP tp N a) (by omega)).sg.symm.trans t7
                intro _ _
                refine wp_if_eq dX7_step_149 (fun _ => ?_) (fun q => absurd q (by decide +kernel))
                refine wp_iconst (v := (nI 4)) dX7_step_156 (by decide +kernel) ?_
                refine wp_putI dX7_step_157 lX7_39 rfl (Or.inl rfl) zr1_2.o rfl rfl ?_
                refine zr1_2.p10 (fun hh11 f11 zr1_11 => ?_)
                have tx1_11 := tx1_2.fr f11 (rnS (by omega) rn0)
                refine wp_aload_n dX7_step_160 rfl rfl ?_
                refine wp_aload_n dX7_step_161 rfl rfl ?_
                refine wp_getR dX7_step_162 lX7_27 rfl zr1_11.o zr1_11.f6 ?_
                refine wp_aload_n dX7_step_165 rfl rfl ?_
                refine wp_getIV dX7_step_166 lX7_84 rfl zr1_11.o zr1_11.f8 ?_
                refine wp_baldN dX7_step_169 tx1_11.1 rfl ⟨by omega, by omega⟩ ?_
                refine wp_i2l dX7_step_170 ?_
                refine wp_putL dX7_step_171 lX7_91 rfl (Or.inl rfl) zr1_11.o ?_
                refine zr1_11.p11 (fun hh12 f12 zr1_12 => ?_)
                have tx1_12 := tx1_11.fr f12 (rnS (by omega) rn0)
                refine wp_aload_n dX7_step_174 rfl rfl ?_
                refine wp_aload_n dX7_step_175 rfl rfl ?_
                refine wp_getIV dX7_step_176 lX7_84 rfl zr1_12.o zr1_12.f8 ?_
                refine wp_iconst (v := (nI 1)) dX7_step_179 (by decide +kernel) ?_
                refine wp_iadd dX7_step_180 ?_
                refine wp_putIN dX7_step_181 lX7_75 rfl rfl (Or.inl rfl) zr1_12.o (isN_add rfl rfl) ?_
                refine zr1_12.p9 (fun hh13 f13 zr1_13 => ?_)
                have tx1_13 := tx1_12.fr f13 (rnS (by omega) rn0)
                refine wp_vreturn dX7_step_184 rfl ?_
                exact hq _ ((((((hf1.up (by decide) (Nat.le_refl _)).tr (f1.up (by decide) (Nat.le_refl _))).tr (f2.up (by decide) (Nat.le_refl _))).tr (f11.up (by decide) (Nat.le_refl _))).tr (f12.up (by decide) (Nat.le_refl _))).tr (f13.up (by decide) (Nat.le_refl _))) (rS_ot (by omega) e3 e5 (by rw [if_neg (by rw [e7]; exact fun z9 => by cases z9)]; exact zr1_13) (fun z9 => absurd (z9.symm.trans e7) (fun y9 => by cases y9)))
        · refine wp_aload_n dX7_step_84 rfl rfl ?_
          refine wp_iconst (v := (nI 3)) dX7_step_85 (by decide +kernel) ?_
          refine wp_putI dX7_step_86 lX7_39 rfl (Or.inl rfl) zr1_2.o rfl rfl ?_
          refine zr1_2.p10 (fun hh14 f14 zr1_14 => ?_)
          have tx1_14 := tx1_2.fr f14 (rnS (by omega) rn0)
          refine wp_goto dX7_step_89 ?_
          refine wp_vreturn dX7_step_184 rfl ?_
          exact hq _ ((((hf1.up (by decide) (Nat.le_refl _)).tr (f1.up (by decide) (Nat.le_refl _))).tr (f2.up (by decide) (Nat.le_refl _))).tr (f14.up (by decide) (Nat.le_refl _))) (rS_over (by omega) zr1_14)
      · refine wp_aload_n dX7_step_19 rfl rfl ?_
        refine wp_getR dX7_step_20 lX7_27 rfl zr1.o zr1.f6 ?_
        refine wp_aload_n dX7_step_23 rfl rfl ?_
        refine wp_getIV dX7_step_24 lX7_84 rfl zr1.o zr1.f8 ?_
        refine wp_baldN dX7_step_27 tx1.1 rfl ⟨by omega, by omega⟩ ?_
        refine wp_bipush (v := (nI 32)) dX7_step_28 (by decide +kernel) ?_
        refine wp_icmp_eq dX7_step_30 (fun cs9 => ?_) (fun cs9 => ?_)
        · have es9 : isSp (tp i) = true := (tx1.2.2.2 i (by omega)).sp.symm.trans (decide_eq_true (Or.inl cs9))
          refine wp_aload_n dX7_step_47 rfl rfl ?_
          refine wp_dup dX7_step_48 rfl ?_
          refine wp_getIV dX7_step_49 lX7_84 rfl zr1.o zr1.f8 ?_
          refine wp_iconst (v := (nI 1)) dX7_step_52 (by decide +kernel) ?_
          refine wp_iadd dX7_step_53 ?_
          refine wp_putIN dX7_step_54 lX7_84 rfl rfl (Or.inl rfl) zr1.o (isN_add rfl rfl) ?_
          refine zr1.p8 (fun hh15 f15 zr1_15 => ?_)
          have tx1_15 := tx1.fr f15 (rnS (by omega) rn0)
          refine wp_goto dX7_step_57 ?_
          refine ih _ (i + 1) ⟨by omega, by omega⟩ (hf1.tr f15) zr1_15 (fun j hj hj2 => ?_) (by omega)
          by_cases c9 : j = i
          · rw [c9]; exact es9
          · exact hp j hj (by omega)
        · refine wp_aload_n dX7_step_33 rfl rfl ?_
          refine wp_getR dX7_step_34 lX7_27 rfl zr1.o zr1.f6 ?_
          refine wp_aload_n dX7_step_37 rfl rfl ?_
          refine wp_getIV dX7_step_38 lX7_84 rfl zr1.o zr1.f8 ?_
          refine wp_baldN dX7_step_41 tx1.1 rfl ⟨by omega, by omega⟩ ?_
          refine wp_bipush (v := (nI 10)) dX7_step_42 (by decide +kernel) ?_
          refine wp_icmp_ne dX7_step_44 (fun ct9 => ?_) (fun ct9 => ?_)
          · have es9 : isSp (tp i) = false := (tx1.2.2.2 i (by omega)).sp.symm.trans (decide_eq_false (fun z9 => z9.elim cs9 ct9))
            have er9 : tP tp N a = i := rn_of hi.1 hi.2 hp (Or.inr ⟨by omega, es9⟩)
            subst er9
            refine wp_aload_n dX7_step_60 rfl rfl ?_
            refine wp_aload_n dX7_step_61 rfl rfl ?_
            refine wp_getIV dX7_step_62 lX7_84 rfl zr1.o zr1.f8 ?_
            refine wp_putI dX7_step_65 lX7_75 rfl (Or.inl rfl) zr1.o rfl rfl ?_
            refine zr1.p9 (fun hh16 f16 zr1_16 => ?_)
            have tx1_16 := tx1.fr f16 (rnS (by omega) rn0)
            refine wp_aload_n dX7_step_68 rfl rfl ?_
            refine wp_lconst (v := 0) dX7_step_69 (by decide +kernel) ?_
            refine wp_putL dX7_step_70 lX7_91 rfl (Or.inl rfl) zr1_16.o ?_
            refine zr1_16.p11 (fun hh17 f17 zr1_17 => ?_)
            have tx1_17 := tx1_16.fr f17 (rnS (by omega) rn0)
            refine wp_aload_n dX7_step_73 rfl rfl ?_
            refine wp_getIV dX7_step_74 lX7_84 rfl zr1_17.o zr1_17.f8 ?_
            refine wp_aload_n dX7_step_77 rfl rfl ?_
            refine wp_getIV dX7_step_78 lX7_72 rfl zr1_17.o zr1_17.f7 ?_
            refine wp_icmp_ltN dX7_step_81 rfl rfl ⟨by omega, by omega⟩ (fun c14 => ?_) (fun c14 => ?_)
            · refine wp_aload_n dX7_step_92 rfl rfl ?_
              refine wp_getR dX7_step_93 lX7_27 rfl zr1_17.o zr1_17.f6 ?_
              refine wp_aload_n dX7_step_96 rfl rfl ?_
              refine wp_getIV dX7_step_97 lX7_84 rfl zr1_17.o zr1_17.f8 ?_
              refine wp_baldN dX7_step_100 tx1_17.1 rfl ⟨by omega, by omega⟩ ?_
              refine wp_cSN1 0 0 [some _] dX7_step_101 tX11_isLetter sX11_isLetter lX7_129 ⟨by decide, by decide⟩ (Nat.le_of_ble_eq_true rfl) (Nat.le_of_ble_eq_true rfl) rfl ?_
              refine pX11_isLetter (fun t18 => ?_) (fun t18 => ?_)
              · have e18 := (tx1_17.2.2.2 (tP tp N a) (by omega)).lt.symm.trans t18
                intro _ _
                refine wp_if_eq dX7_step_104 (fun q => absurd q (by decide +kernel)) (fun _ => ?_)
                refine wp_aload_n dX7_step_107 rfl rfl ?_
                refine wp_cV0 1 20 [some _, none] dX7_step_108 tX7_takeLetters rfl (by decide) nX7_takeLetters vX7_takeLetters lX7_133 ⟨by decide, by decide⟩ (Nat.le_of_ble_eq_true rfl) zr1_17.o (Nat.le_of_ble_eq_true rfl) rfl ?_
                refine pX7_takeLetters (k := (tP tp N a)) zr1_17 tx1_17 (by omega) (fun hh19 f19 zr_19 => ?_)
                intro _ _
                refine wp_goto dX7_step_111 ?_
                refine wp_vreturn dX7_step_184 rfl ?_
                exact hq _ ((((hf1.up (by decide) (Nat.le_refl _)).tr (f16.up (by decide) (Nat.le_refl _))).tr (f17.up (by decide) (Nat.le_refl _))).tr (f19.up (by decide) (Nat.le_refl _))) (rS_lt (by omega) e18 zr_19)
              · have e18 := (tx1_17.2.2.2 (tP tp N a) (by omega)).lt.symm.trans t18
                intro _ _
                refine wp_if_eq dX7_step_104 (fun _ => ?_) (fun q => absurd q (by decide +kernel))
                refine wp_aload_n dX7_step_114 rfl rfl ?_
                refine wp_getR dX7_step_115 lX7_27 rfl zr1_17.o zr1_17.f6 ?_
                refine wp_aload_n dX7_step_118 rfl rfl ?_
                refine wp_getIV dX7_step_119 lX7_84 rfl zr1_17.o zr1_17.f8 ?_
                refine wp_baldN dX7_step_122 tx1_17.1 rfl ⟨by omega, by omega⟩ ?_
                refine wp_cSN1 0 0 [some _] dX7_step_123 tX11_isDigit sX11_isDigit lX7_136 ⟨by decide, by decide⟩ (Nat.le_of_ble_eq_true rfl) (Nat.le_of_ble_eq_true rfl) rfl ?_
                refine pX11_isDigit (fun t20 => ?_) (fun t20 => ?_)
                · have e20 := (tx1_17.2.2.2 (tP tp N a) (by omega)).dg.symm.trans t20
                  intro _ _
                  refine wp_if_eq dX7_step_126 (fun q => absurd q (by decide +kernel)) (fun _ => ?_)
                  refine wp_aload_n dX7_step_129 rfl rfl ?_
                  refine wp_cV0 1 20 [some _, none, none] dX7_step_130 tX7_takeDigits rfl (by decide) nX7_takeDigits vX7_takeDigits lX7_139 ⟨by decide, by decide⟩ (Nat.le_of_ble_eq_true rfl) zr1_17.o (Nat.le_of_ble_eq_true rfl) rfl ?_
                  refine pX7_takeDigits (k := (tP tp N a)) zr1_17 tx1_17 (by omega) (fun hh21 f21 zr_21 => ?_)
                  intro _ _
                  refine wp_goto dX7_step_133 ?_
                  refine wp_vreturn dX7_step_184 rfl ?_
                  exact hq _ ((((hf1.up (by decide) (Nat.le_refl _)).tr (f16.up (by decide) (Nat.le_refl _))).tr (f17.up (by decide) (Nat.le_refl _))).tr (f21.up (by decide) (Nat.le_refl _))) (rS_dg (by omega) e18 e20 zr_21)
                · have e20 := (tx1_17.2.2.2 (tP tp N a) (by omega)).dg.symm.trans t20
                  intro _ _
                  refine wp_if_eq dX7_step_126 (fun _ => ?_) (fun q => absurd q (by decide +kernel))
                  refine wp_aload_n dX7_step_136 rfl rfl ?_
                  refine wp_aload_n dX7_step_137 rfl rfl ?_
                  refine wp_getR dX7_step_138 lX7_27 rfl zr1_17.o zr1_17.f6 ?_
                  refine wp_aload_n dX7_step_141 rfl rfl ?_
                  refine wp_getIV dX7_step_142 lX7_84 rfl zr1_17.o zr1_17.f8 ?_
                  refine wp_baldN dX7_step_145 tx1_17.1 rfl ⟨by omega, by omega⟩ ?_
                  refine wp_cS1 0 0 [some _] dX7_step_146 tX7_isSign sX7_isSign lX7_142 ⟨by decide, by decide⟩ (Nat.le_of_ble_eq_true rfl) (Nat.le_of_ble_eq_true rfl) rfl ?_
                  refine pX7_isSign (fun t22 => ?_) (fun t22 => ?_)
                  · have e22 := (tx1_17.2.2.2 (tP tp N a) (by omega)).sg.symm.trans t22
                    intro _ _
                    refine wp_if_eq dX7_step_149 (fun q => absurd q (by decide +kernel)) (fun _ => ?_)
                    refine wp_iconst (v := (nI 2)) dX7_step_152 (by decide +kernel) ?_
                    refine wp_goto dX7_step_153 ?_
                    refine wp_putI dX7_step_157 lX7_39 rfl (Or.inl rfl) zr1_17.o rfl rfl ?_
                    refine zr1_17.p10 (fun hh23 f23 zr1_23 => ?_)
                    have tx1_23 := tx1_17.fr f23 (rnS (by omega) rn0)
                    refine wp_aload_n dX7_step_160 rfl rfl ?_
                    refine wp_aload_n dX7_step_161 rfl rfl ?_
                    refine wp_getR dX7_step_162 lX7_27 rfl zr1_23.o zr1_23.f6 ?_
                    refine wp_aload_n dX7_step_165 rfl rfl ?_
                    refine wp_getIV dX7_step_166 lX7_84 rfl zr1_23.o zr1_23.f8 ?_
                    refine wp_baldN dX7_step_169 tx1_23.1 rfl ⟨by omega, by omega⟩ ?_
                    refine wp_i2l dX7_step_170 ?_
                    refine wp_putL dX7_step_171 lX7_91 rfl (Or.inl rfl) zr1_23.o ?_
                    refine zr1_23.p11 (fun hh24 f24 zr1_24 => ?_)
                    have tx1_24 := tx1_23.fr f24 (rnS (by omega) rn0)
                    refine wp_aload_n dX7_step_174 rfl rfl ?_
                    refine wp_aload_n dX7_step_175 rfl rfl ?_
                    refine wp_getIV dX7_step_176 lX7_84 rfl zr1_24.o zr1_24.f8 ?_
                    refine wp_iconst (v := (nI 1)) dX7_step_179 (by decide +kernel) ?_
                    refine wp_iadd dX7_step_180 ?_
                    refine wp_putIN dX7_step_181 lX7_75 rfl rfl (Or.inl rfl) zr1_24.o (isN_add rfl rfl) ?_
                    refine zr1_24.p9 (fun hh25 f25 zr1_25 => ?_)
                    have tx1_25 := tx1_24.fr f25 (rnS (by omega) rn0)
                    refine wp_vreturn dX7_step_184 rfl ?_
                    refine hq _ ((((((hf1.up (by decide) (Nat.le_refl _)).tr (f16.up (by decide) (Nat.le_refl _))).tr (f17.up (by decide) (Nat.le_refl _))).tr (f23.up (by decide) (Nat.le_refl _))).tr (f24.up (by decide) (Nat.le_refl _))).tr (f25.up (by decide) (Nat.le_refl _))) (rS_ot (by omega) e18 e20 (by rw [if_pos e22]; exact zr1_25) (fun z9 => ?_))
                    exact congrArg Int32.toInt64 ((tx1_23.2.2.2 (tP tp N a) (by omega)).es z9)
                  · have e22 := (tx1_17.2.2.2 (tP tp N a) (by omega)).sg.symm.trans t22
                    intro _ _
                    refine wp_if_eq dX7_step_149 (fun _ => ?_) (fun q => absurd q (by decide +kernel))
                    refine wp_iconst (v := (nI 4)) dX7_step_156 (by decide +kernel) ?_
                    refine wp_putI dX7_step_157 lX7_39 rfl (Or.inl rfl) zr1_17.o rfl rfl ?_
                    refine zr1_17.p10 (fun hh26 f26 zr1_26 => ?_)
                    have tx1_26 := tx1_17.fr f26 (rnS (by omega) rn0)
                    refine wp_aload_n dX7_step_160 rfl rfl ?_
                    refine wp_aload_n dX7_step_161 rfl rfl ?_
                    refine wp_getR dX7_step_162 lX7_27 rfl zr1_26.o zr1_26.f6 ?_
                    refine wp_aload_n dX7_step_165 rfl rfl ?_
                    refine wp_getIV dX7_step_166 lX7_84 rfl zr1_26.o zr1_26.f8 ?_
                    refine wp_baldN dX7_step_169 tx1_26.1 rfl ⟨by omega, by omega⟩ ?_
                    refine wp_i2l dX7_step_170 ?_
                    refine wp_putL dX7_step_171 lX7_91 rfl (Or.inl rfl) zr1_26.o ?_
                    refine zr1_26.p11 (fun hh27 f27 zr1_27 => ?_)
                    have tx1_27 := tx1_26.fr f27 (rnS (by omega) rn0)
                    refine wp_aload_n dX7_step_174 rfl rfl ?_
                    refine wp_aload_n dX7_step_175 rfl rfl ?_
                    refine wp_getIV dX7_step_176 lX7_84 rfl zr1_27.o zr1_27.f8 ?_
                    refine wp_iconst (v := (nI 1)) dX7_step_179 (by decide +kernel) ?_
                    refine wp_iadd dX7_step_180 ?_
                    refine wp_putIN dX7_step_181 lX7_75 rfl rfl (Or.inl rfl) zr1_27.o (isN_add rfl rfl) ?_
                    refine zr1_27.p9 (fun hh28 f28 zr1_28 => ?_)
                    have tx1_28 := tx1_27.fr f28 (rnS (by omega) rn0)
                    refine wp_vreturn dX7_step_184 rfl ?_
                    exact hq _ ((((((hf1.up (by decide) (Nat.le_refl _)).tr (f16.up (by decide) (Nat.le_refl _))).tr (f17.up (by decide) (Nat.le_refl _))).tr (f26.up (by decide) (Nat.le_refl _))).tr (f27.up (by decide) (Nat.le_refl _))).tr (f28.up (by decide) (Nat.le_refl _))) (rS_ot (by omega) e18 e20 (by rw [if_neg (by rw [e22]; exact fun z9 => by cases z9)]; exact zr1_28) (fun z9 => absurd (z9.symm.trans e22) (fun y9 => by cases y9)))
            · refine wp_aload_n dX7_step_84 rfl rfl ?_
              refine wp_iconst (v := (nI 3)) dX7_step_85 (by decide +kernel) ?_
              refine wp_putI dX7_step_86 lX7_39 rfl (Or.inl rfl) zr1_17.o rfl rfl ?_
              refine zr1_17.p10 (fun hh29 f29 zr1_29 => ?_)
              have tx1_29 := tx1_17.fr f29 (rnS (by omega) rn0)
              refine wp_goto dX7_step_89 ?_
              refine wp_vreturn dX7_step_184 rfl ?_
              exact hq _ ((((hf1.up (by decide) (Nat.le_refl _)).tr (f16.up (by decide) (Nat.le_refl _))).tr (f17.up (by decide) (Nat.le_refl _))).tr (f29.up (by decide) (Nat.le_refl _))) (rS_over (by omega) zr1_29)
          · have es9 : isSp (tp i) = true := (tx1.2.2.2 i (by omega)).sp.symm.trans (decide_eq_true (Or.inr ct9))
            refine wp_aload_n dX7_step_47 rfl rfl ?_
            refine wp_dup dX7_step_48 rfl ?_
            refine wp_getIV dX7_step_49 lX7_84 rfl zr1.o zr1.f8 ?_
            refine wp_iconst (v := (nI 1)) dX7_step_52 (by decide +kernel) ?_
            refine wp_iadd dX7_step_53 ?_
            refine wp_putIN dX7_step_54 lX7_84 rfl rfl (Or.inl rfl) zr1.o (isN_add rfl rfl) ?_
            refine zr1.p8 (fun hh30 f30 zr1_30 => ?_)
            have tx1_30 := tx1.fr f30 (rnS (by omega) rn0)
            refine wp_goto dX7_step_57 ?_
            refine ih _ (i + 1) ⟨by omega, by omega⟩ (hf1.tr f30) zr1_30 (fun j hj hj2 => ?_) (by omega)
            by_cases c9 : j = i
            · rw [c9]; exact es9
            · exact hp j hj (by omega)
  refine wp_aload_n dX7_step_0 rfl rfl ?_
  refine wp_aload_n dX7_step_1 rfl rfl ?_
  refine wp_getIV dX7_step_2 lX7_75 rfl zr.o zr.f9 ?_
  refine wp_putI dX7_step_5 lX7_84 rfl (Or.inl rfl) zr.o rfl rfl ?_
  refine zr.p8 (fun hh51 f51 zr_51 => ?_)
  have tx_51 := tx.fr f51 (rnS (by omega) rn0)
  exact hlp (N + 1) _ a ⟨Nat.le_refl _, hk⟩ f51 zr_51 (fun j hj hj2 => by omega) (by omega)
