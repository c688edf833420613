/-! ===== how many bits a long has ===== -/
def val8 : List Nat → Nat
  | [] => 0
  | b :: t => b + 256 * val8 t
def rep8 (c : Nat) : Nat → Nat
  | 0 => 0
  | n + 1 => c + 256 * rep8 c n
theorem and_256 {a b c d : Nat} (hb : b < 256) (hd : d < 256) : (b + 256 * a) &&& (d + 256 * c) = (b &&& d) + 256 * (a &&& c) := by
  have hbd : b &&& d < 2 ^ 8 := Nat.and_lt_two_pow b hd
  apply Nat.eq_of_testBit_eq
  intro j
  rw [Nat.add_comm b, Nat.add_comm d, Nat.add_comm (b &&& d), Nat.testBit_and, show (256 : Nat) = 2 ^ 8 from rfl, Nat.testBit_two_pow_mul_add a hb, Nat.testBit_two_pow_mul_add c hd, Nat.testBit_two_pow_mul_add _ hbd]
  split
  · rw [Nat.testBit_and]
  · rw [Nat.testBit_and]
def s1 (b : Nat) : Nat := b - (b / 2 &&& 85)
def s2 (b : Nat) : Nat := (b &&& 51) + (b / 4 &&& 51)
def s3 (b : Nat) : Nat := (b + b / 16) &&& 15
theorem f1 : ∀ b : Fin 256, (∀ c : Fin 2, (b.val / 2 + 128 * c.val) &&& 85 = b.val / 2 &&& 85) ∧ b.val / 2 &&& 85 ≤ b.val ∧ s1 b.val < 256 := by decide +kernel
theorem f2 : ∀ b : Fin 256, (∀ c : Fin 4, (b.val / 4 + 64 * c.val) &&& 51 = b.val / 4 &&& 51) ∧ s2 (s1 b.val) % 16 ≤ 4 ∧ s2 (s1 b.val) / 16 ≤ 4 ∧ s3 (s2 (s1 b.val)) = cntB (fun j => b.val.testBit j) 8 := by decide +kernel
theorem f3 : ∀ b : Fin 69, ∀ c : Fin 5, (b.val + b.val / 16 + 16 * c.val) &&& 15 = s3 b.val := by decide +kernel
theorem s1_val : ∀ l : List Nat, (∀ b ∈ l, b < 256) → (val8 l / 2 &&& rep8 85 l.length) ≤ val8 l ∧ val8 l - (val8 l / 2 &&& rep8 85 l.length) = val8 (l.map s1)
  | [], _ => ⟨Nat.le_refl _, rfl⟩
  | b :: t, h => by
    have ih := s1_val t (fun x hx => h x (List.mem_cons_of_mem _ hx))
    have hb := h b List.mem_cons_self
    have h1 := f1 ⟨b, hb⟩
    have e : (b + 256 * val8 t) / 2 = (b / 2 + 128 * (val8 t % 2)) + 256 * (val8 t / 2) := by omega
    have e2 : (b + 256 * val8 t) / 2 &&& (85 + 256 * rep8 85 t.length) = (b / 2 &&& 85) + 256 * (val8 t / 2 &&& rep8 85 t.length) := by
      rw [e, and_256 (by omega) (by decide)]
      congr 1
      exact h1.1 ⟨val8 t % 2, by omega⟩
    show ((b + 256 * val8 t) / 2 &&& (85 + 256 * rep8 85 t.length)) ≤ b + 256 * val8 t ∧ b + 256 * val8 t - ((b + 256 * val8 t) / 2 &&& (85 + 256 * rep8 85 t.length)) = s1 b + 256 * val8 (t.map s1)
    rw [e2]
    have h2 := h1.2.1
    have h3 : s1 b = b - (b / 2 &&& 85) := rfl
    rw [h3]
    have h2 : b / 2 &&& 85 ≤ b := h2
    omega
theorem s2_val : ∀ l : List Nat, (∀ b ∈ l, b < 256) → (val8 l &&& rep8 51 l.length) + (val8 l / 4 &&& rep8 51 l.length) = val8 (l.map s2)
  | [], _ => rfl
  | b :: t, h => by
    have ih := s2_val t (fun x hx => h x (List.mem_cons_of_mem _ hx))
    have hb := h b List.mem_cons_self
    have h1 := f2 ⟨b, hb⟩
    have e : (b + 256 * val8 t) / 4 = (b / 4 + 64 * (val8 t % 4)) + 256 * (val8 t / 4) := by omega
    show ((b + 256 * val8 t) &&& (51 + 256 * rep8 51 t.length)) + ((b + 256 * val8 t) / 4 &&& (51 + 256 * rep8 51 t.length)) = s2 b + 256 * val8 (t.map s2)
    have h9 : (b / 4 + 64 * (val8 t % 4)) &&& 51 = b / 4 &&& 51 := h1.1 ⟨val8 t % 4, by omega⟩
    rw [e, and_256 hb (by decide), and_256 (by omega) (by decide), h9]
    have h3 : s2 b = (b &&& 51) + (b / 4 &&& 51) := rfl
    omega
theorem s3_val : ∀ l : List Nat, (∀ b ∈ l, b % 16 ≤ 4 ∧ b / 16 ≤ 4) → (val8 l + val8 l / 16) &&& rep8 15 l.length = val8 (l.map s3) ∧ val8 l % 16 ≤ 4
  | [], _ => ⟨rfl, by decide⟩
  | b :: t, h => by
    have ih := s3_val t (fun x hx => h x (List.mem_cons_of_mem _ hx))
    have hb := h b List.mem_cons_self
    have e : b + 256 * val8 t + (b + 256 * val8 t) / 16 = (b + b / 16 + 16 * (val8 t % 16)) + 256 * (val8 t + val8 t / 16) := by omega
    refine ⟨?_, ?_⟩
    · show (b + 256 * val8 t + (b + 256 * val8 t) / 16) &&& (15 + 256 * rep8 15 t.length) = s3 b + 256 * val8 (t.map s3)
      have h9 : (b + b / 16 + 16 * (val8 t % 16)) &&& 15 = s3 b := f3 ⟨b, by omega⟩ ⟨val8 t % 16, by omega⟩
      rw [e, and_256 (by omega) (by decide), ih.1, h9]
    · show (b + 256 * val8 t) % 16 ≤ 4
      omega
def byt8 (x : Nat) : List Nat := [x % 256, x / 256 % 256, x / 65536 % 256, x / 16777216 % 256, x / 4294967296 % 256, x / 1099511627776 % 256, x / 281474976710656 % 256, x / 72057594037927936 % 256]
theorem byt8_v {x : Nat} (hx : x < 18446744073709551616) : val8 (byt8 x) = x := by
  show x % 256 + 256 * (x / 256 % 256 + 256 * (x / 65536 % 256 + 256 * (x / 16777216 % 256 + 256 * (x / 4294967296 % 256 + 256 * (x / 1099511627776 % 256 + 256 * (x / 281474976710656 % 256 + 256 * (x / 72057594037927936 % 256 + 256 * 0))))))) = x
  omega
theorem byt8_l {x : Nat} : ∀ b ∈ byt8 x, b < 256 := by
  intro b hb
  have : b = x % 256 ∨ b = x / 256 % 256 ∨ b = x / 65536 % 256 ∨ b = x / 16777216 % 256 ∨ b = x / 4294967296 % 256 ∨ b = x / 1099511627776 % 256 ∨ b = x / 281474976710656 % 256 ∨ b = x / 72057594037927936 % 256 := by
    simpa [byt8] using hb
  omega
def pop8 (b : Nat) : Nat := cntB (fun j => b.testBit j) 8
/-- the bits of a number below 2^64 -/
def popN (x : Nat) : Nat := pop8 (x % 256) + pop8 (x / 256 % 256) + pop8 (x / 65536 % 256) + pop8 (x / 16777216 % 256) + pop8 (x / 4294967296 % 256) + pop8 (x / 1099511627776 % 256) + pop8 (x / 281474976710656 % 256) + pop8 (x / 72057594037927936 % 256)
def w3 (x : Nat) : Nat := val8 ((byt8 x).map pop8)
theorem pop8_le (b : Nat) : pop8 b ≤ 8 := cntB_le 8
theorem w3_e {x : Nat} (hx : x < 18446744073709551616) : ∃ y1 y2, y1 = x - (x / 2 &&& 6148914691236517205) ∧ (x / 2 &&& 6148914691236517205) ≤ x ∧ y2 = (y1 &&& 3689348814741910323) + (y1 / 4 &&& 3689348814741910323) ∧ (y2 + y2 / 16) &&& 1085102592571150095 = w3 x ∧ y1 < 18446744073709551616 ∧ y2 < 18446744073709551616 ∧ y2 + y2 / 16 < 18446744073709551616 := by
  have hb := byt8_l (x := x)
  have hv := byt8_v hx
  have r1 : rep8 85 (byt8 x).length = 6148914691236517205 := (by decide +kernel : rep8 85 8 = 6148914691236517205)
  have r2 : rep8 51 ((byt8 x).map s1).length = 3689348814741910323 := by rw [List.length_map]; exact (by decide +kernel : rep8 51 8 = 3689348814741910323)
  have r3 : rep8 15 (((byt8 x).map s1).map s2).length = 1085102592571150095 := by rw [List.length_map, List.length_map]; exact (by decide +kernel : rep8 15 8 = 1085102592571150095)
  have h1 := s1_val (byt8 x) hb
  have hb1 : ∀ b ∈ (byt8 x).map s1, b < 256 := fun b h => by
    obtain ⟨c, h2, h3⟩ := List.mem_map.mp h
    subst h3
    exact (f1 ⟨c, hb c h2⟩).2.2
  have h2 := s2_val ((byt8 x).map s1) hb1
  have hb2 : ∀ b ∈ ((byt8 x).map s1).map s2, b % 16 ≤ 4 ∧ b / 16 ≤ 4 := fun b h => by
    obtain ⟨c, h4, h5⟩ := List.mem_map.mp h
    obtain ⟨d, h6, h7⟩ := List.mem_map.mp h4
    subst h5
    subst h7
    exact ⟨(f2 ⟨d, hb d h6⟩).2.1, (f2 ⟨d, hb d h6⟩).2.2.1⟩
  have h3 := s3_val (((byt8 x).map s1).map s2) hb2
  rw [hv, r1] at h1
  rw [← h1.2, r2] at h2
  rw [← h2, r3] at h3
  have e3 : val8 ((((byt8 x).map s1).map s2).map s3) = w3 x := by
    unfold w3
    rw [List.map_map, List.map_map]
    congr 1
    apply List.map_congr_left
    intro b h
    exact (f2 ⟨b, hb b h⟩).2.2.2
  have l2 : val8 (((byt8 x).map s1).map s2) ≤ 4919131752989213764 := by
    have hm : ∀ k, (((byt8 x).map s1).map s2).getD k 0 ≤ 68 := fun k => by
      rw [List.getD_eq_getElem?_getD]
      cases e : (((byt8 x).map s1).map s2)[k]? with
      | none => exact Nat.zero_le _
      | some b =>
        have := hb2 b (List.mem_of_getElem? e)
        show b ≤ 68
        omega
    have g0 := hm 0
    have g1 := hm 1
    have g2 := hm 2
    have g3 := hm 3
    have g4 := hm 4
    have g5 := hm 5
    have g6 := hm 6
    have g7 := hm 7
    show s2 (s1 (x % 256)) + 256 * (s2 (s1 (x / 256 % 256)) + 256 * (s2 (s1 (x / 65536 % 256)) + 256 * (s2 (s1 (x / 16777216 % 256)) + 256 * (s2 (s1 (x / 4294967296 % 256)) + 256 * (s2 (s1 (x / 1099511627776 % 256)) + 256 * (s2 (s1 (x / 281474976710656 % 256)) + 256 * (s2 (s1 (x / 72057594037927936 % 256)) + 256 * 0))))))) ≤ _
    have g0 : s2 (s1 (x % 256)) ≤ 68 := g0
    have g1 : s2 (s1 (x / 256 % 256)) ≤ 68 := g1
    have g2 : s2 (s1 (x / 65536 % 256)) ≤ 68 := g2
    have g3 : s2 (s1 (x / 16777216 % 256)) ≤ 68 := g3
    have g4 : s2 (s1 (x / 4294967296 % 256)) ≤ 68 := g4
    have g5 : s2 (s1 (x / 1099511627776 % 256)) ≤ 68 := g5
    have g6 : s2 (s1 (x / 281474976710656 % 256)) ≤ 68 := g6
    have g7 : s2 (s1 (x / 72057594037927936 % 256)) ≤ 68 := g7
    generalize s2 (s1 (x % 256)) = v0 at *
    generalize s2 (s1 (x / 256 % 256)) = v1 at *
    generalize s2 (s1 (x / 65536 % 256)) = v2 at *
    generalize s2 (s1 (x / 16777216 % 256)) = v3 at *
    generalize s2 (s1 (x / 4294967296 % 256)) = v4 at *
    generalize s2 (s1 (x / 1099511627776 % 256)) = v5 at *
    generalize s2 (s1 (x / 281474976710656 % 256)) = v6 at *
    generalize s2 (s1 (x / 72057594037927936 % 256)) = v7 at *
    omega
  refine ⟨x - (x / 2 &&& 6148914691236517205), _, rfl, h1.1, rfl, h3.1.trans e3, by omega, ?_, ?_⟩
  · rw [h2]
    omega
  · rw [h2]
    omega
theorem dvm {r m q : Nat} (h : r < m) : (r + m * q) / m = q := by rw [Nat.add_mul_div_left _ _ (by omega), Nat.div_eq_of_lt h, Nat.zero_add]
theorem wst {p B W V : Nat} (h : p ≤ 8) (e : W = p + 256 * V) (hV : V ≤ B) : W ≤ 8 + 256 * B := by omega
theorem wq {p0 p1 p2 W0 W1 W2 W3 : Nat} (e0 : W0 = p0 + 256 * W1) (e1 : W1 = p1 + 256 * W2) (e2 : W2 = p2 + 256 * W3) : W0 + W1 = (p0 + p1 + 256 * (p1 + p2)) + 65536 * (W2 + W3) := by omega
theorem wq2 {A B C X Y Z G : Nat} (e0 : G = A + 65536 * X) (e1 : X = B + 65536 * Y) (e2 : Y = C + 65536 * Z) : G + X = (A + B + 65536 * B + 65536 * C) + 4294967296 * (Y + Z) := by omega
theorem wab {a b c : Nat} (ha : a ≤ 8) (hb : b ≤ 8) (hc : c ≤ 8) : a + b + 256 * (b + c) ≤ 4112 := by omega
theorem wabc {A B C : Nat} (hA : A ≤ 4112) (hB : B ≤ 4112) (hC : C ≤ 4112) : A + B + 65536 * B + 65536 * C < 4294967296 := by omega
theorem w65 {A : Nat} (h : A ≤ 4112) : A < 65536 := by omega
theorem pop_sum {p0 p1 p2 p3 p4 p5 p6 p7 W0 W1 W2 W3 W4 W5 W6 W7 : Nat} (e7 : W7 = p7) (e6 : W6 = p6 + 256 * W7) (e5 : W5 = p5 + 256 * W6) (e4 : W4 = p4 + 256 * W5) (e3 : W3 = p3 + 256 * W4) (e2 : W2 = p2 + 256 * W3) (e1 : W1 = p1 + 256 * W2) (e0 : W0 = p0 + 256 * W1) : W0 + W1 + (W2 + W3) + ((W4 + W5) + (W6 + W7)) = (p0 + p1 + p2 + p3 + p4 + p5 + p6 + p7) + 128 * (2 * (W1 + W2 + W3 + W4 + W5 + W6 + W7)) := by omega
theorem pop_b {W0 W1 W2 W3 W4 W5 W6 W7 : Nat} (l7 : W7 ≤ 8) (l6 : W6 ≤ 2056) (l5 : W5 ≤ 526344) (l4 : W4 ≤ 134744072) (l3 : W3 ≤ 34494482440) (l2 : W2 ≤ 8830587504648) (l1 : W1 ≤ 2260630401189896) (l0 : W0 ≤ 578721382704613384) : W0 + W1 + (W2 + W3) + ((W4 + W5) + (W6 + W7)) < 18446744073709551616 ∧ W0 + W1 + (W2 + W3) < 18446744073709551616 ∧ W0 + W1 < 18446744073709551616 ∧ W0 < 18446744073709551616 := by omega
theorem pop_64 {p0 p1 p2 p3 p4 p5 p6 p7 : Nat} (h0 : p0 ≤ 8) (h1 : p1 ≤ 8) (h2 : p2 ≤ 8) (h3 : p3 ≤ 8) (h4 : p4 ≤ 8) (h5 : p5 ≤ 8) (h6 : p6 ≤ 8) (h7 : p7 ≤ 8) : p0 + p1 + p2 + p3 + p4 + p5 + p6 + p7 < 128 := by omega
theorem pop_lin {p0 p1 p2 p3 p4 p5 p6 p7 W0 W1 W2 W3 W4 W5 W6 W7 : Nat} (h0 : p0 ≤ 8) (h1 : p1 ≤ 8) (h2 : p2 ≤ 8) (h3 : p3 ≤ 8) (h4 : p4 ≤ 8) (h5 : p5 ≤ 8) (h6 : p6 ≤ 8) (h7 : p7 ≤ 8) (e7 : W7 = p7) (e6 : W6 = p6 + 256 * W7) (e5 : W5 = p5 + 256 * W6) (e4 : W4 = p4 + 256 * W5) (e3 : W3 = p3 + 256 * W4) (e2 : W2 = p2 + 256 * W3) (e1 : W1 = p1 + 256 * W2) (e0 : W0 = p0 + 256 * W1) : ∃ g1 g2 g3, g1 = W0 + W0 / 256 ∧ g2 = g1 + g1 / 65536 ∧ g3 = g2 + g2 / 4294967296 ∧ g3 % 128 = p0 + p1 + p2 + p3 + p4 + p5 + p6 + p7 ∧ g3 < 18446744073709551616 ∧ g2 < 18446744073709551616 ∧ g1 < 18446744073709551616 ∧ W0 < 18446744073709551616 := by
  have l7 : W7 ≤ 8 := by rw [e7]; exact h7
  have l6 : W6 ≤ 2056 := wst h6 e6 l7
  have l5 : W5 ≤ 526344 := wst h5 e5 l6
  have l4 : W4 ≤ 134744072 := wst h4 e4 l5
  have l3 : W3 ≤ 34494482440 := wst h3 e3 l4
  have l2 : W2 ≤ 8830587504648 := wst h2 e2 l3
  have l1 : W1 ≤ 2260630401189896 := wst h1 e1 l2
  have l0 : W0 ≤ 578721382704613384 := wst h0 e0 l1
  have d0 : W0 / 256 = W1 := by rw [e0]; exact dvm (Nat.lt_of_le_of_lt h0 (by decide))
  have q1 := wq e0 e1 e2
  have q2 := wq e2 e3 e4
  have q4 := wq e4 e5 e6
  have d1 : (W0 + W1) / 65536 = W2 + W3 := by rw [q1]; exact dvm (w65 (wab h0 h1 h2))
  have q3 := wq2 q1 q2 q4
  have d2 : (W0 + W1 + (W2 + W3)) / 4294967296 = (W4 + W5) + (W6 + W7) := by rw [q3]; exact dvm (wabc (wab h0 h1 h2) (wab h2 h3 h4) (wab h4 h5 h6))
  have hb := pop_b l7 l6 l5 l4 l3 l2 l1 l0
  refine ⟨W0 + W1, W0 + W1 + (W2 + W3), W0 + W1 + (W2 + W3) + ((W4 + W5) + (W6 + W7)), by rw [d0], by rw [d1], by rw [d2], ?_, hb⟩
  rw [pop_sum e7 e6 e5 e4 e3 e2 e1 e0, Nat.add_mul_mod_self_left, Nat.mod_eq_of_lt (pop_64 h0 h1 h2 h3 h4 h5 h6 h7)]
theorem w3_sum (x : Nat) : ∃ g1 g2 g3, g1 = w3 x + w3 x / 256 ∧ g2 = g1 + g1 / 65536 ∧ g3 = g2 + g2 / 4294967296 ∧ g3 % 128 = popN x ∧ g3 < 18446744073709551616 ∧ g2 < 18446744073709551616 ∧ g1 < 18446744073709551616 ∧ w3 x < 18446744073709551616 := by
  have h0 := pop8_le (x % 256)
  have h1 := pop8_le (x / 256 % 256)
  have h2 := pop8_le (x / 65536 % 256)
  have h3 := pop8_le (x / 16777216 % 256)
  have h4 := pop8_le (x / 4294967296 % 256)
  have h5 := pop8_le (x / 1099511627776 % 256)
  have h6 := pop8_le (x / 281474976710656 % 256)
  have h7 := pop8_le (x / 72057594037927936 % 256)
  have e : w3 x = pop8 (x % 256) + 256 * (pop8 (x / 256 % 256) + 256 * (pop8 (x / 65536 % 256) + 256 * (pop8 (x / 16777216 % 256) + 256 * (pop8 (x / 4294967296 % 256) + 256 * (pop8 (x / 1099511627776 % 256) + 256 * (pop8 (x / 281474976710656 % 256) + 256 * (pop8 (x / 72057594037927936 % 256) + 256 * 0))))))) := rfl
  have e2 : popN x = pop8 (x % 256) + pop8 (x / 256 % 256) + pop8 (x / 65536 % 256) + pop8 (x / 16777216 % 256) + pop8 (x / 4294967296 % 256) + pop8 (x / 1099511627776 % 256) + pop8 (x / 281474976710656 % 256) + pop8 (x / 72057594037927936 % 256) := rfl
  rw [e, e2]
  exact pop_lin h0 h1 h2 h3 h4 h5 h6 h7 rfl rfl rfl rfl rfl rfl rfl rfl
