/-! how many bits -/
def pc1 (x : BitVec 32) : BitVec 32 := x - ((x >>> 1) &&& 0x55555555#32)
def pc2 (x : BitVec 32) : BitVec 32 := (x &&& 0x33333333#32) + ((x >>> 2) &&& 0x33333333#32)
def pc3 (x : BitVec 32) : BitVec 32 := (x + (x >>> 4)) &&& 0x0f0f0f0f#32
def pc4 (x : BitVec 32) : BitVec 32 := x + (x >>> 8)
def pc5 (x : BitVec 32) : BitVec 32 := x + (x >>> 16)
def pcV (x : BitVec 32) : BitVec 32 := pc5 (pc4 (pc3 (pc2 (pc1 x)))) &&& 63#32
/-- the bits of a byte -/
def c8 (a : Nat) : Nat := a % 2 + a / 2 % 2 + a / 4 % 2 + a / 8 % 2 + a / 16 % 2 + a / 32 % 2 + a / 64 % 2 + a / 128 % 2
def j4 (d c b a : Nat) : Nat := a + 256 * b + 65536 * c + 16777216 * d
theorem and_j4 (d c b a m : Nat) (ha : a < 256) (hb : b < 256) (hc : c < 256) (hd : d < 256) (hm : m < 256) : (j4 d c b a) &&& (j4 m m m m) = j4 (d &&& m) (c &&& m) (b &&& m) (a &&& m) := by
  have key : ∀ (x y u v : Nat), u < 256 → v < 256 → (u + 256 * x) &&& (v + 256 * y) = (u &&& v) + 256 * (x &&& y) := by
    intro x y u v hu hv
    have h1 : u + 256 * x = 2 ^ 8 * x + u := by omega
    have h2 : v + 256 * y = 2 ^ 8 * y + v := by omega
    have h3 : (u &&& v) + 256 * (x &&& y) = 2 ^ 8 * (x &&& y) + (u &&& v) := by omega
    have hw : (u &&& v) < 2 ^ 8 := Nat.lt_of_le_of_lt Nat.and_le_left (by omega)
    rw [h1, h2, h3]
    apply Nat.eq_of_testBit_eq
    intro i
    rw [Nat.testBit_and, Nat.testBit_two_pow_mul_add _ (by omega), Nat.testBit_two_pow_mul_add _ (by omega), Nat.testBit_two_pow_mul_add _ hw]
    split
    · rw [Nat.testBit_and]
    · rw [Nat.testBit_and]
  have e1 : j4 d c b a = a + 256 * (b + 256 * (c + 256 * d)) := by unfold j4; omega
  have e2 : j4 m m m m = m + 256 * (m + 256 * (m + 256 * m)) := by unfold j4; omega
  rw [e1, e2, key _ _ _ _ ha hm, key _ _ _ _ hb hm, key _ _ _ _ hc hm]
  unfold j4; omega
/-- a shift to the right and a mask that keeps out what the next byte gave -/
theorem sh_j4 (d c b a s m : Nat) (hs : s ≤ 4) (ha : a < 256) (hb : b < 256) (hc : c < 256) (hd : d < 256) (hm : m < 2 ^ (8 - s)) : (j4 d c b a / 2 ^ s) &&& (j4 m m m m) = j4 ((d / 2 ^ s) &&& m) ((c / 2 ^ s) &&& m) ((b / 2 ^ s) &&& m) ((a / 2 ^ s) &&& m) := by
  have h256 : m < 256 := by
    have : s = 0 ∨ s = 1 ∨ s = 2 ∨ s = 3 ∨ s = 4 := by omega
    rcases this with rfl | rfl | rfl | rfl | rfl <;> omega
  have ex : ∃ r1 r2 r3 : Nat, r1 < 2 ^ s ∧ r2 < 2 ^ s ∧ r3 < 2 ^ s ∧ j4 d c b a / 2 ^ s = j4 (d / 2 ^ s) (c / 2 ^ s + 2 ^ (8 - s) * r3) (b / 2 ^ s + 2 ^ (8 - s) * r2) (a / 2 ^ s + 2 ^ (8 - s) * r1) := by
    refine ⟨b % 2 ^ s, c % 2 ^ s, d % 2 ^ s, Nat.mod_lt _ (Nat.two_pow_pos s), Nat.mod_lt _ (Nat.two_pow_pos s), Nat.mod_lt _ (Nat.two_pow_pos s), ?_⟩
    unfold j4
    have : s = 0 ∨ s = 1 ∨ s = 2 ∨ s = 3 ∨ s = 4 := by omega
    rcases this with rfl | rfl | rfl | rfl | rfl <;> simp only [Nat.reducePow, Nat.reduceSub] <;> omega
  obtain ⟨r1, r2, r3, h1, h2, h3, e⟩ := ex
  have bnd : ∀ x r : Nat, x < 256 → r < 2 ^ s → x / 2 ^ s + 2 ^ (8 - s) * r < 256 := by
    intro x r hx hr
    have : s = 0 ∨ s = 1 ∨ s = 2 ∨ s = 3 ∨ s = 4 := by omega
    rcases this with rfl | rfl | rfl | rfl | rfl <;> simp only [Nat.reducePow, Nat.reduceSub] at hr ⊢ <;> omega
  have msk : ∀ x r : Nat, x < 256 → (x / 2 ^ s + 2 ^ (8 - s) * r) &&& m = (x / 2 ^ s) &&& m := by
    intro x r hx
    have hlt : x / 2 ^ s < 2 ^ (8 - s) := by
      have : s = 0 ∨ s = 1 ∨ s = 2 ∨ s = 3 ∨ s = 4 := by omega
      rcases this with rfl | rfl | rfl | rfl | rfl <;> simp only [Nat.reducePow, Nat.reduceSub] <;> omega
    rw [Nat.add_comm]
    apply Nat.eq_of_testBit_eq
    intro i
    rw [Nat.testBit_and, Nat.testBit_and, Nat.testBit_two_pow_mul_add _ hlt]
    by_cases hi : i < 8 - s
    · rw [if_pos hi]
    · have : m.testBit i = false := Nat.testBit_lt_two_pow (Nat.lt_of_lt_of_le hm (Nat.pow_le_pow_right (by omega) (by omega)))
      rw [this, Bool.and_false, Bool.and_false]
  have hd2 : d / 2 ^ s < 256 := Nat.lt_of_le_of_lt (Nat.div_le_self _ _) hd
  rw [e, and_j4 _ _ _ _ _ (bnd a r1 ha h1) (bnd b r2 hb h2) (bnd c r3 hc h3) hd2 h256, msk a r1 ha, msk b r2 hb, msk c r3 hc]
def w1 (a : Nat) : Nat := a - ((a / 2) &&& 0x55)
def w2 (a : Nat) : Nat := (a &&& 0x33) + ((a / 4) &&& 0x33)
def w3 (a : Nat) : Nat := (a &&& 0xf) + ((a / 16) &&& 0xf)
theorem w_b : ∀ a, a < 256 → ((a / 2) &&& 0x55) ≤ a ∧ w1 a < 256 ∧ w2 (w1 a) < 256 ∧ ((w2 (w1 a)) % 16 ≤ 4 ∧ w2 (w1 a) / 16 ≤ 4) ∧ w2 (w1 a) % 16 + w2 (w1 a) / 16 = c8 a ∧ c8 a ≤ 8 := by decide +kernel
theorem pcV_j4 (d c b a : Nat) (ha : a < 256) (hb : b < 256) (hc : c < 256) (hd : d < 256) (x : BitVec 32) (hx : x.toNat = j4 d c b a) : (pcV x).toNat = c8 a + c8 b + c8 c + c8 d := by
  obtain ⟨a1, a2, a3, a4, a5, a6⟩ := w_b a ha
  obtain ⟨b1, b2, b3, b4, b5, b6⟩ := w_b b hb
  obtain ⟨c1, c2, c3, c4, c5, c6⟩ := w_b c hc
  obtain ⟨d1, d2, d3, d4, d5, d6⟩ := w_b d hd
  have h1 : (pc1 x).toNat = j4 (w1 d) (w1 c) (w1 b) (w1 a) := by
    unfold pc1
    rw [BitVec.toNat_sub, BitVec.toNat_and, BitVec.toNat_ushiftRight, Nat.shiftRight_eq_div_pow, hx, show (0x55555555#32).toNat = j4 0x55 0x55 0x55 0x55 from rfl, sh_j4 d c b a 1 0x55 (by omega) ha hb hc hd (by decide)]
    simp only [Nat.reducePow]
    unfold w1 at *
    unfold j4
    omega
  have h2 : (pc2 (pc1 x)).toNat = j4 (w2 (w1 d)) (w2 (w1 c)) (w2 (w1 b)) (w2 (w1 a)) := by
    unfold pc2
    rw [BitVec.toNat_add, BitVec.toNat_and, BitVec.toNat_and, BitVec.toNat_ushiftRight, Nat.shiftRight_eq_div_pow, h1, show (0x33333333#32).toNat = j4 0x33 0x33 0x33 0x33 from rfl, sh_j4 _ _ _ _ 2 0x33 (by omega) a2 b2 c2 d2 (by decide), and_j4 _ _ _ _ _ a2 b2 c2 d2 (by decide)]
    simp only [Nat.reducePow]
    unfold w2 at *
    unfold j4
    omega
  have h3 : (pc3 (pc2 (pc1 x))).toNat = j4 (c8 d) (c8 c) (c8 b) (c8 a) := by
    rw [← a5, ← b5, ← c5, ← d5]
    unfold pc3
    rw [BitVec.toNat_and, BitVec.toNat_add, BitVec.toNat_ushiftRight, Nat.shiftRight_eq_div_pow, h2, show (0x0f0f0f0f#32).toNat = j4 0xf 0xf 0xf 0xf from rfl]
    clear h2 h1 hx a5 b5 c5 d5 a6 b6 c6 d6
    generalize w2 (w1 a) = A at *
    generalize w2 (w1 b) = B at *
    generalize w2 (w1 c) = C at *
    generalize w2 (w1 d) = E at *
    have e : (j4 E C B A + j4 E C B A / 2 ^ 4) % 2 ^ 32 = j4 (E + E / 16) (C + C / 16 + 16 * (E % 16)) (B + B / 16 + 16 * (C % 16)) (A + A / 16 + 16 * (B % 16)) := by
      unfold j4
      simp only [Nat.reducePow]
      omega
    rw [e, and_j4 _ _ _ _ _ (by omega) (by omega) (by omega) (by omega) (by omega)]
    have m : ∀ y : Nat, y &&& 0xf = y % 16 := fun y => Nat.and_two_pow_sub_one_eq_mod y 4
    have r : ∀ y q : Nat, y % 16 ≤ 4 ∧ y / 16 ≤ 4 → (y + y / 16 + 16 * q) % 16 = y % 16 + y / 16 := fun y q h => by omega
    have r0 : (E + E / 16) % 16 = E % 16 + E / 16 := by omega
    rw [m, m, m, m, r0, r C _ c4, r B _ b4, r A _ a4]
  have h4 : (pc4 (pc3 (pc2 (pc1 x)))).toNat = j4 (c8 d) (c8 c + c8 d) (c8 b + c8 c) (c8 a + c8 b) := by
    unfold pc4
    rw [BitVec.toNat_add, BitVec.toNat_ushiftRight, Nat.shiftRight_eq_div_pow, h3]
    unfold j4
    simp only [Nat.reducePow]
    omega
  unfold pcV pc5
  rw [BitVec.toNat_and, BitVec.toNat_add, BitVec.toNat_ushiftRight, Nat.shiftRight_eq_div_pow, h4, show (63#32).toNat = 2 ^ 6 - 1 from rfl, Nat.and_two_pow_sub_one_eq_mod]
  clear h4 h3 h2 h1 hx a1 a2 a3 a4 a5 b1 b2 b3 b4 b5 c1 c2 c3 c4 c5 d1 d2 d3 d4 d5
  generalize c8 a = A at *
  generalize c8 b = B at *
  generalize c8 c = C at *
  generalize c8 d = E at *
  have e1 : j4 E (C + E) (B + C) (A + B) / 2 ^ 16 = (C + E) + 256 * E := by
    unfold j4
    simp only [Nat.reducePow]
    omega
  have e2 : (j4 E (C + E) (B + C) (A + B) + ((C + E) + 256 * E)) % 2 ^ 32 = (A + B + C + E) + 64 * (4 * (B + C + E) + 1024 * (C + E) + 262144 * E) := by
    unfold j4
    simp only [Nat.reducePow]
    omega
  rw [e1, e2]
  simp only [Nat.reducePow]
  omega
theorem cnt_8 (X k : Nat) (p : Nat → Bool) (hp : ∀ i, i < 32 → p i = X.testBit i) (hk : k ≤ 3) : cnt p (8 * k + 8) = cnt p (8 * k) + c8 (X / 2 ^ (8 * k) % 256) := by
  have one : ∀ i, i < 8 → (if p (8 * k + i) = true then 1 else 0) = X / 2 ^ (8 * k) % 256 / 2 ^ i % 2 := fun i hi => by
    rw [hp _ (by omega), Nat.testBit_eq_decide_div_mod_eq, Nat.pow_add, ← Nat.div_div_eq_div_mul]
    generalize X / 2 ^ (8 * k) = Y
    have e : Y % 256 / 2 ^ i % 2 = Y / 2 ^ i % 2 := by
      have : i = 0 ∨ i = 1 ∨ i = 2 ∨ i = 3 ∨ i = 4 ∨ i = 5 ∨ i = 6 ∨ i = 7 := by omega
      rcases this with rfl | rfl | rfl | rfl | rfl | rfl | rfl | rfl <;> simp only [Nat.reducePow] <;> omega
    rw [e]
    have h2 : Y / 2 ^ i % 2 = 0 ∨ Y / 2 ^ i % 2 = 1 := by omega
    rcases h2 with h | h <;> rw [h] <;> decide
  have o0 := one 0 (by omega)
  have o1 := one 1 (by omega)
  have o2 := one 2 (by omega)
  have o3 := one 3 (by omega)
  have o4 := one 4 (by omega)
  have o5 := one 5 (by omega)
  have o6 := one 6 (by omega)
  have o7 := one 7 (by omega)
  simp only [Nat.reducePow, Nat.add_zero, Nat.div_one] at o0 o1 o2 o3 o4 o5 o6 o7
  show cnt p (8 * k) + (if p (8 * k) = true then 1 else 0) + (if p (8 * k + 1) = true then 1 else 0) + (if p (8 * k + 2) = true then 1 else 0) + (if p (8 * k + 3) = true then 1 else 0) + (if p (8 * k + 4) = true then 1 else 0) + (if p (8 * k + 5) = true then 1 else 0) + (if p (8 * k + 6) = true then 1 else 0) + (if p (8 * k + 7) = true then 1 else 0) = _
  rw [o0, o1, o2, o3, o4, o5, o6, o7]
  unfold c8
  omega
theorem pcV_cnt (x : Int32) : (pcV x.toBitVec).toNat = cnt (btO x) 32 := by
  have hp : ∀ i, i < 32 → btO x i = x.toBitVec.toNat.testBit i := fun i _ => rfl
  have hX : x.toBitVec.toNat < 4294967296 := x.toBitVec.isLt
  rw [pcV_j4 (x.toBitVec.toNat / 2 ^ 24 % 256) (x.toBitVec.toNat / 2 ^ 16 % 256) (x.toBitVec.toNat / 2 ^ 8 % 256) (x.toBitVec.toNat / 2 ^ 0 % 256) (by omega) (by omega) (by omega) (by omega) x.toBitVec (by unfold j4; simp only [Nat.reducePow]; omega)]
  have h3 := cnt_8 x.toBitVec.toNat 3 (btO x) hp (by omega)
  have h2 := cnt_8 x.toBitVec.toNat 2 (btO x) hp (by omega)
  have h1 := cnt_8 x.toBitVec.toNat 1 (btO x) hp (by omega)
  have h0 := cnt_8 x.toBitVec.toNat 0 (btO x) hp (by omega)
  simp only [Nat.reduceMul, Nat.reduceAdd] at h0 h1 h2 h3
  have z : cnt (btO x) 0 = 0 := rfl
  omega
theorem cnt_up0 {p : Nat → Bool} {m : Nat} : ∀ k, (∀ o, m ≤ o → o < m + k → p o = false) → cnt p (m + k) = cnt p m
  | 0, _ => rfl
  | k + 1, h => by
    show cnt p (m + k) + (if p (m + k) = true then 1 else 0) = cnt p m
    rw [h (m + k) (by omega) (by omega), cnt_up0 k (fun o h1 h2 => h o h1 (by omega))]
    simp
/-- the bits of what is loaded, counted -/
theorem pcV_24 {r x : Int32} {p : Nat → Bool} (h : r.toBitVec = pcV x.toBitVec) (hb : ∀ o, o < 32 → btO x o = p o) (h0 : ∀ o, 24 ≤ o → p o = false) : r = nI (cnt p 24) := by
  have e1 : cnt (btO x) 32 = cnt p 32 := cnt_c 32 hb
  have e2 : cnt p 32 = cnt p 24 := cnt_up0 (m := 24) 8 (fun o h1 _ => h0 o h1)
  have e3 := pcV_cnt x
  rw [← h, e1, e2] at e3
  have le := cnt_le p 24
  apply Int32.toBitVec_inj.mp
  apply BitVec.eq_of_toNat_eq
  rw [e3]
  show cnt p 24 = (BitVec.ofNat 32 (cnt p 24)).toNat
  rw [BitVec.toNat_ofNat, Nat.mod_eq_of_lt (by omega)]
